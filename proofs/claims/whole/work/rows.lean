section
/-- a private method of a class that the tables say can be made, by its rows of tables_1 -/
def lw_okq (q : MethodName × Nat) : Prop := (q.1.cls ≠ "java/lang/invoke/MethodHandle" ∧ q.1.cls ≠ "java/lang/invoke/VarHandle") ∧ Cond.instantiable q.1.cls q.2 ∈ tables_1 ∧ Cond.privateMethod q.1 ∈ tables_1 ∧ Cond.instanceMethod q.1 ∈ tables_1
theorem lw_p0 : lw_okq (⟨"BootHall$Reader", "begin", "()V"⟩, 9) := ⟨⟨by decide +kernel, by decide +kernel⟩, List.mem_of_getElem? (i := 217) (by decide +kernel), List.mem_of_getElem? (i := 355) (by decide +kernel), List.mem_of_getElem? (i := 356) (by decide +kernel)⟩
theorem lw_p1 : lw_okq (⟨"BootHall$Scanner", "scanWord", "()V"⟩, 5) := ⟨⟨by decide +kernel, by decide +kernel⟩, List.mem_of_getElem? (i := 225) (by decide +kernel), List.mem_of_getElem? (i := 377) (by decide +kernel), List.mem_of_getElem? (i := 378) (by decide +kernel)⟩
theorem lw_p2 : lw_okq (⟨"BootHall$Scanner", "scanInt", "()V"⟩, 5) := ⟨⟨by decide +kernel, by decide +kernel⟩, List.mem_of_getElem? (i := 225) (by decide +kernel), List.mem_of_getElem? (i := 390) (by decide +kernel), List.mem_of_getElem? (i := 391) (by decide +kernel)⟩
theorem lw_p3 : lw_okq (⟨"BootHall$Scanner", "scanSign", "()V"⟩, 5) := ⟨⟨by decide +kernel, by decide +kernel⟩, List.mem_of_getElem? (i := 225) (by decide +kernel), List.mem_of_getElem? (i := 394) (by decide +kernel), List.mem_of_getElem? (i := 395) (by decide +kernel)⟩
theorem lw_p4 : lw_okq (⟨"BootHall$Scanner", "set", "(II)V"⟩, 5) := ⟨⟨by decide +kernel, by decide +kernel⟩, List.mem_of_getElem? (i := 225) (by decide +kernel), List.mem_of_getElem? (i := 398) (by decide +kernel), List.mem_of_getElem? (i := 399) (by decide +kernel)⟩
theorem lw_p5 : lw_okq (⟨"BootHall$Scanner", "scanRelation", "(I)V"⟩, 5) := ⟨⟨by decide +kernel, by decide +kernel⟩, List.mem_of_getElem? (i := 225) (by decide +kernel), List.mem_of_getElem? (i := 402) (by decide +kernel), List.mem_of_getElem? (i := 403) (by decide +kernel)⟩
theorem lw_p6 : lw_okq (⟨"BootHall$Reader", "following", "(I)I"⟩, 9) := ⟨⟨by decide +kernel, by decide +kernel⟩, List.mem_of_getElem? (i := 217) (by decide +kernel), List.mem_of_getElem? (i := 406) (by decide +kernel), List.mem_of_getElem? (i := 407) (by decide +kernel)⟩
theorem lw_p7 : lw_okq (⟨"BootHall$Reader", "followingUnit", "(I)I"⟩, 9) := ⟨⟨by decide +kernel, by decide +kernel⟩, List.mem_of_getElem? (i := 217) (by decide +kernel), List.mem_of_getElem? (i := 410) (by decide +kernel), List.mem_of_getElem? (i := 411) (by decide +kernel)⟩
theorem lw_p8 : lw_okq (⟨"BootHall$Reader", "isOverfull", "()Z"⟩, 9) := ⟨⟨by decide +kernel, by decide +kernel⟩, List.mem_of_getElem? (i := 217) (by decide +kernel), List.mem_of_getElem? (i := 414) (by decide +kernel), List.mem_of_getElem? (i := 415) (by decide +kernel)⟩
theorem lw_p9 : lw_okq (⟨"BootHall$Reader", "take", "()V"⟩, 9) := ⟨⟨by decide +kernel, by decide +kernel⟩, List.mem_of_getElem? (i := 217) (by decide +kernel), List.mem_of_getElem? (i := 418) (by decide +kernel), List.mem_of_getElem? (i := 419) (by decide +kernel)⟩
theorem lw_p10 : lw_okq (⟨"BootHall$Reader", "takeNumber", "(I)V"⟩, 9) := ⟨⟨by decide +kernel, by decide +kernel⟩, List.mem_of_getElem? (i := 217) (by decide +kernel), List.mem_of_getElem? (i := 426) (by decide +kernel), List.mem_of_getElem? (i := 427) (by decide +kernel)⟩
theorem lw_p11 : lw_okq (⟨"BootHall$Reader", "takeUnit", "()V"⟩, 9) := ⟨⟨by decide +kernel, by decide +kernel⟩, List.mem_of_getElem? (i := 217) (by decide +kernel), List.mem_of_getElem? (i := 434) (by decide +kernel), List.mem_of_getElem? (i := 435) (by decide +kernel)⟩
theorem lw_p12 : lw_okq (⟨"BootHall$Reader", "push", "(I)V"⟩, 9) := ⟨⟨by decide +kernel, by decide +kernel⟩, List.mem_of_getElem? (i := 217) (by decide +kernel), List.mem_of_getElem? (i := 438) (by decide +kernel), List.mem_of_getElem? (i := 439) (by decide +kernel)⟩
theorem lw_p13 : lw_okq (⟨"BootHall$Reader", "takeBehindUnit", "()V"⟩, 9) := ⟨⟨by decide +kernel, by decide +kernel⟩, List.mem_of_getElem? (i := 217) (by decide +kernel), List.mem_of_getElem? (i := 446) (by decide +kernel), List.mem_of_getElem? (i := 447) (by decide +kernel)⟩
theorem lw_p14 : lw_okq (⟨"BootHall$Reader", "emitDownTo", "(I)V"⟩, 9) := ⟨⟨by decide +kernel, by decide +kernel⟩, List.mem_of_getElem? (i := 217) (by decide +kernel), List.mem_of_getElem? (i := 450) (by decide +kernel), List.mem_of_getElem? (i := 451) (by decide +kernel)⟩
theorem lw_p15 : lw_okq (⟨"BootHall", "freshen", "()V"⟩, 5) := ⟨⟨by decide +kernel, by decide +kernel⟩, List.mem_of_getElem? (i := 15) (by decide +kernel), List.mem_of_getElem? (i := 537) (by decide +kernel), List.mem_of_getElem? (i := 538) (by decide +kernel)⟩
def lw_privs_1 : List (MethodName × Nat) := [(⟨"BootHall$Reader", "begin", "()V"⟩, 9), (⟨"BootHall$Scanner", "scanWord", "()V"⟩, 5), (⟨"BootHall$Scanner", "scanInt", "()V"⟩, 5), (⟨"BootHall$Scanner", "scanSign", "()V"⟩, 5), (⟨"BootHall$Scanner", "set", "(II)V"⟩, 5), (⟨"BootHall$Scanner", "scanRelation", "(I)V"⟩, 5), (⟨"BootHall$Reader", "following", "(I)I"⟩, 9), (⟨"BootHall$Reader", "followingUnit", "(I)I"⟩, 9), (⟨"BootHall$Reader", "isOverfull", "()Z"⟩, 9), (⟨"BootHall$Reader", "take", "()V"⟩, 9), (⟨"BootHall$Reader", "takeNumber", "(I)V"⟩, 9), (⟨"BootHall$Reader", "takeUnit", "()V"⟩, 9), (⟨"BootHall$Reader", "push", "(I)V"⟩, 9), (⟨"BootHall$Reader", "takeBehindUnit", "()V"⟩, 9), (⟨"BootHall$Reader", "emitDownTo", "(I)V"⟩, 9), (⟨"BootHall", "freshen", "()V"⟩, 5)]
theorem lw_r1 : ∀ q ∈ lw_privs_1, lw_okq q := List.forall_mem_cons.mpr ⟨lw_p0, List.forall_mem_cons.mpr ⟨lw_p1, List.forall_mem_cons.mpr ⟨lw_p2, List.forall_mem_cons.mpr ⟨lw_p3, List.forall_mem_cons.mpr ⟨lw_p4, List.forall_mem_cons.mpr ⟨lw_p5, List.forall_mem_cons.mpr ⟨lw_p6, List.forall_mem_cons.mpr ⟨lw_p7, List.forall_mem_cons.mpr ⟨lw_p8, List.forall_mem_cons.mpr ⟨lw_p9, List.forall_mem_cons.mpr ⟨lw_p10, List.forall_mem_cons.mpr ⟨lw_p11, List.forall_mem_cons.mpr ⟨lw_p12, List.forall_mem_cons.mpr ⟨lw_p13, List.forall_mem_cons.mpr ⟨lw_p14, List.forall_mem_cons.mpr ⟨lw_p15, fun _ h => absurd h List.not_mem_nil⟩⟩⟩⟩⟩⟩⟩⟩⟩⟩⟩⟩⟩⟩⟩⟩
theorem lw_p16 : lw_okq (⟨"BootHall$Run", "reset", "()V"⟩, 9) := ⟨⟨by decide +kernel, by decide +kernel⟩, List.mem_of_getElem? (i := 279) (by decide +kernel), List.mem_of_getElem? (i := 545) (by decide +kernel), List.mem_of_getElem? (i := 546) (by decide +kernel)⟩
theorem lw_p17 : lw_okq (⟨"BootHall$Machine", "enter", "(I)V"⟩, 16) := ⟨⟨by decide +kernel, by decide +kernel⟩, List.mem_of_getElem? (i := 71) (by decide +kernel), List.mem_of_getElem? (i := 556) (by decide +kernel), List.mem_of_getElem? (i := 557) (by decide +kernel)⟩
theorem lw_p18 : lw_okq (⟨"BootHall$Machine", "clearTallies", "()V"⟩, 16) := ⟨⟨by decide +kernel, by decide +kernel⟩, List.mem_of_getElem? (i := 71) (by decide +kernel), List.mem_of_getElem? (i := 560) (by decide +kernel), List.mem_of_getElem? (i := 561) (by decide +kernel)⟩
theorem lw_p19 : lw_okq (⟨"BootHall$Run", "power", "(I)V"⟩, 9) := ⟨⟨by decide +kernel, by decide +kernel⟩, List.mem_of_getElem? (i := 279) (by decide +kernel), List.mem_of_getElem? (i := 564) (by decide +kernel), List.mem_of_getElem? (i := 565) (by decide +kernel)⟩
theorem lw_p20 : lw_okq (⟨"BootHall$Run", "ask", "(I)V"⟩, 9) := ⟨⟨by decide +kernel, by decide +kernel⟩, List.mem_of_getElem? (i := 279) (by decide +kernel), List.mem_of_getElem? (i := 580) (by decide +kernel), List.mem_of_getElem? (i := 581) (by decide +kernel)⟩
theorem lw_p21 : lw_okq (⟨"BootHall$Run", "question", "(ILBootHall$Machine;I)V"⟩, 9) := ⟨⟨by decide +kernel, by decide +kernel⟩, List.mem_of_getElem? (i := 279) (by decide +kernel), List.mem_of_getElem? (i := 584) (by decide +kernel), List.mem_of_getElem? (i := 585) (by decide +kernel)⟩
theorem lw_p22 : lw_okq (⟨"BootHall$Run", "setVars", "(LBootHall$Machine;IIII)V"⟩, 9) := ⟨⟨by decide +kernel, by decide +kernel⟩, List.mem_of_getElem? (i := 279) (by decide +kernel), List.mem_of_getElem? (i := 592) (by decide +kernel), List.mem_of_getElem? (i := 593) (by decide +kernel)⟩
theorem lw_p23 : lw_okq (⟨"BootHall$Rules", "holds", "(I[I)Z"⟩, 8) := ⟨⟨by decide +kernel, by decide +kernel⟩, List.mem_of_getElem? (i := 140) (by decide +kernel), List.mem_of_getElem? (i := 604) (by decide +kernel), List.mem_of_getElem? (i := 605) (by decide +kernel)⟩
theorem lw_p24 : lw_okq (⟨"BootHall$Run", "send", "(I)V"⟩, 9) := ⟨⟨by decide +kernel, by decide +kernel⟩, List.mem_of_getElem? (i := 279) (by decide +kernel), List.mem_of_getElem? (i := 634) (by decide +kernel), List.mem_of_getElem? (i := 635) (by decide +kernel)⟩
theorem lw_p25 : lw_okq (⟨"BootHall$Run", "lineUp", "(I)I"⟩, 9) := ⟨⟨by decide +kernel, by decide +kernel⟩, List.mem_of_getElem? (i := 279) (by decide +kernel), List.mem_of_getElem? (i := 638) (by decide +kernel), List.mem_of_getElem? (i := 639) (by decide +kernel)⟩
theorem lw_p26 : lw_okq (⟨"BootHall$Run", "receive", "(II)V"⟩, 9) := ⟨⟨by decide +kernel, by decide +kernel⟩, List.mem_of_getElem? (i := 279) (by decide +kernel), List.mem_of_getElem? (i := 645) (by decide +kernel), List.mem_of_getElem? (i := 646) (by decide +kernel)⟩
theorem lw_p27 : lw_okq (⟨"BootHall$Run", "goOn", "(LBootHall$Machine;I)V"⟩, 9) := ⟨⟨by decide +kernel, by decide +kernel⟩, List.mem_of_getElem? (i := 279) (by decide +kernel), List.mem_of_getElem? (i := 661) (by decide +kernel), List.mem_of_getElem? (i := 662) (by decide +kernel)⟩
theorem lw_p28 : lw_okq (⟨"BootHall$Run", "install", "(I)V"⟩, 9) := ⟨⟨by decide +kernel, by decide +kernel⟩, List.mem_of_getElem? (i := 279) (by decide +kernel), List.mem_of_getElem? (i := 670) (by decide +kernel), List.mem_of_getElem? (i := 671) (by decide +kernel)⟩
theorem lw_p29 : lw_okq (⟨"BootHall$Run", "isSettled", "()Z"⟩, 9) := ⟨⟨by decide +kernel, by decide +kernel⟩, List.mem_of_getElem? (i := 279) (by decide +kernel), List.mem_of_getElem? (i := 678) (by decide +kernel), List.mem_of_getElem? (i := 679) (by decide +kernel)⟩
theorem lw_p30 : lw_okq (⟨"BootHall$Run", "keep", "(I)V"⟩, 9) := ⟨⟨by decide +kernel, by decide +kernel⟩, List.mem_of_getElem? (i := 279) (by decide +kernel), List.mem_of_getElem? (i := 686) (by decide +kernel), List.mem_of_getElem? (i := 687) (by decide +kernel)⟩
theorem lw_p31 : lw_okq (⟨"BootHall$Hall", "hasKind", "(I)Z"⟩, 9) := ⟨⟨by decide +kernel, by decide +kernel⟩, List.mem_of_getElem? (i := 40) (by decide +kernel), List.mem_of_getElem? (i := 754) (by decide +kernel), List.mem_of_getElem? (i := 755) (by decide +kernel)⟩
def lw_privs_2 : List (MethodName × Nat) := [(⟨"BootHall$Run", "reset", "()V"⟩, 9), (⟨"BootHall$Machine", "enter", "(I)V"⟩, 16), (⟨"BootHall$Machine", "clearTallies", "()V"⟩, 16), (⟨"BootHall$Run", "power", "(I)V"⟩, 9), (⟨"BootHall$Run", "ask", "(I)V"⟩, 9), (⟨"BootHall$Run", "question", "(ILBootHall$Machine;I)V"⟩, 9), (⟨"BootHall$Run", "setVars", "(LBootHall$Machine;IIII)V"⟩, 9), (⟨"BootHall$Rules", "holds", "(I[I)Z"⟩, 8), (⟨"BootHall$Run", "send", "(I)V"⟩, 9), (⟨"BootHall$Run", "lineUp", "(I)I"⟩, 9), (⟨"BootHall$Run", "receive", "(II)V"⟩, 9), (⟨"BootHall$Run", "goOn", "(LBootHall$Machine;I)V"⟩, 9), (⟨"BootHall$Run", "install", "(I)V"⟩, 9), (⟨"BootHall$Run", "isSettled", "()Z"⟩, 9), (⟨"BootHall$Run", "keep", "(I)V"⟩, 9), (⟨"BootHall$Hall", "hasKind", "(I)Z"⟩, 9)]
theorem lw_r2 : ∀ q ∈ lw_privs_2, lw_okq q := List.forall_mem_cons.mpr ⟨lw_p16, List.forall_mem_cons.mpr ⟨lw_p17, List.forall_mem_cons.mpr ⟨lw_p18, List.forall_mem_cons.mpr ⟨lw_p19, List.forall_mem_cons.mpr ⟨lw_p20, List.forall_mem_cons.mpr ⟨lw_p21, List.forall_mem_cons.mpr ⟨lw_p22, List.forall_mem_cons.mpr ⟨lw_p23, List.forall_mem_cons.mpr ⟨lw_p24, List.forall_mem_cons.mpr ⟨lw_p25, List.forall_mem_cons.mpr ⟨lw_p26, List.forall_mem_cons.mpr ⟨lw_p27, List.forall_mem_cons.mpr ⟨lw_p28, List.forall_mem_cons.mpr ⟨lw_p29, List.forall_mem_cons.mpr ⟨lw_p30, List.forall_mem_cons.mpr ⟨lw_p31, fun _ h => absurd h List.not_mem_nil⟩⟩⟩⟩⟩⟩⟩⟩⟩⟩⟩⟩⟩⟩⟩⟩
theorem lw_p32 : lw_okq (⟨"BootHallModel", "put", "(I)V"⟩, 83) := ⟨⟨by decide +kernel, by decide +kernel⟩, List.mem_of_getElem? (i := 778) (by decide +kernel), List.mem_of_getElem? (i := 1045) (by decide +kernel), List.mem_of_getElem? (i := 1046) (by decide +kernel)⟩
theorem lw_p33 : lw_okq (⟨"BootHallModel", "cut", "()V"⟩, 83) := ⟨⟨by decide +kernel, by decide +kernel⟩, List.mem_of_getElem? (i := 778) (by decide +kernel), List.mem_of_getElem? (i := 1057) (by decide +kernel), List.mem_of_getElem? (i := 1058) (by decide +kernel)⟩
theorem lw_p34 : lw_okq (⟨"BootHallModel", "at", "(I)I"⟩, 83) := ⟨⟨by decide +kernel, by decide +kernel⟩, List.mem_of_getElem? (i := 778) (by decide +kernel), List.mem_of_getElem? (i := 1061) (by decide +kernel), List.mem_of_getElem? (i := 1062) (by decide +kernel)⟩
theorem lw_p35 : lw_okq (⟨"BootHallModel", "token", "(IIIJ)V"⟩, 83) := ⟨⟨by decide +kernel, by decide +kernel⟩, List.mem_of_getElem? (i := 778) (by decide +kernel), List.mem_of_getElem? (i := 1065) (by decide +kernel), List.mem_of_getElem? (i := 1066) (by decide +kernel)⟩
theorem lw_p36 : lw_okq (⟨"BootHallModel", "sign", "(III)I"⟩, 83) := ⟨⟨by decide +kernel, by decide +kernel⟩, List.mem_of_getElem? (i := 778) (by decide +kernel), List.mem_of_getElem? (i := 1075) (by decide +kernel), List.mem_of_getElem? (i := 1076) (by decide +kernel)⟩
theorem lw_p37 : lw_okq (⟨"BootHallModel", "is", "(I)Z"⟩, 83) := ⟨⟨by decide +kernel, by decide +kernel⟩, List.mem_of_getElem? (i := 778) (by decide +kernel), List.mem_of_getElem? (i := 1079) (by decide +kernel), List.mem_of_getElem? (i := 1080) (by decide +kernel)⟩
theorem lw_p38 : lw_okq (⟨"BootHallModel", "tellRule", "()V"⟩, 83) := ⟨⟨by decide +kernel, by decide +kernel⟩, List.mem_of_getElem? (i := 778) (by decide +kernel), List.mem_of_getElem? (i := 1083) (by decide +kernel), List.mem_of_getElem? (i := 1084) (by decide +kernel)⟩
theorem lw_p39 : lw_okq (⟨"BootHallModel", "fail", "(I)V"⟩, 83) := ⟨⟨by decide +kernel, by decide +kernel⟩, List.mem_of_getElem? (i := 778) (by decide +kernel), List.mem_of_getElem? (i := 1087) (by decide +kernel), List.mem_of_getElem? (i := 1088) (by decide +kernel)⟩
theorem lw_p40 : lw_okq (⟨"BootHallModel", "next", "()V"⟩, 83) := ⟨⟨by decide +kernel, by decide +kernel⟩, List.mem_of_getElem? (i := 778) (by decide +kernel), List.mem_of_getElem? (i := 1091) (by decide +kernel), List.mem_of_getElem? (i := 1092) (by decide +kernel)⟩
theorem lw_p41 : lw_okq (⟨"BootHallModel", "must", "(I)V"⟩, 83) := ⟨⟨by decide +kernel, by decide +kernel⟩, List.mem_of_getElem? (i := 778) (by decide +kernel), List.mem_of_getElem? (i := 1095) (by decide +kernel), List.mem_of_getElem? (i := 1096) (by decide +kernel)⟩
theorem lw_p42 : lw_okq (⟨"BootHallModel", "wrong", "(II)V"⟩, 83) := ⟨⟨by decide +kernel, by decide +kernel⟩, List.mem_of_getElem? (i := 778) (by decide +kernel), List.mem_of_getElem? (i := 1099) (by decide +kernel), List.mem_of_getElem? (i := 1100) (by decide +kernel)⟩
theorem lw_p43 : lw_okq (⟨"BootHallModel", "relation", "(Z)V"⟩, 83) := ⟨⟨by decide +kernel, by decide +kernel⟩, List.mem_of_getElem? (i := 778) (by decide +kernel), List.mem_of_getElem? (i := 1103) (by decide +kernel), List.mem_of_getElem? (i := 1104) (by decide +kernel)⟩
theorem lw_p44 : lw_okq (⟨"BootHallModel", "expression", "()V"⟩, 83) := ⟨⟨by decide +kernel, by decide +kernel⟩, List.mem_of_getElem? (i := 778) (by decide +kernel), List.mem_of_getElem? (i := 1107) (by decide +kernel), List.mem_of_getElem? (i := 1108) (by decide +kernel)⟩
theorem lw_p45 : lw_okq (⟨"BootHallModel", "emit", "(II)V"⟩, 83) := ⟨⟨by decide +kernel, by decide +kernel⟩, List.mem_of_getElem? (i := 778) (by decide +kernel), List.mem_of_getElem? (i := 1111) (by decide +kernel), List.mem_of_getElem? (i := 1112) (by decide +kernel)⟩
theorem lw_p46 : lw_okq (⟨"BootHallModel", "comesOut", "(Z)V"⟩, 83) := ⟨⟨by decide +kernel, by decide +kernel⟩, List.mem_of_getElem? (i := 778) (by decide +kernel), List.mem_of_getElem? (i := 1115) (by decide +kernel), List.mem_of_getElem? (i := 1116) (by decide +kernel)⟩
theorem lw_p47 : lw_okq (⟨"BootHallModel", "isMachine", "(I)Z"⟩, 83) := ⟨⟨by decide +kernel, by decide +kernel⟩, List.mem_of_getElem? (i := 778) (by decide +kernel), List.mem_of_getElem? (i := 1146) (by decide +kernel), List.mem_of_getElem? (i := 1147) (by decide +kernel)⟩
def lw_privs_3 : List (MethodName × Nat) := [(⟨"BootHallModel", "put", "(I)V"⟩, 83), (⟨"BootHallModel", "cut", "()V"⟩, 83), (⟨"BootHallModel", "at", "(I)I"⟩, 83), (⟨"BootHallModel", "token", "(IIIJ)V"⟩, 83), (⟨"BootHallModel", "sign", "(III)I"⟩, 83), (⟨"BootHallModel", "is", "(I)Z"⟩, 83), (⟨"BootHallModel", "tellRule", "()V"⟩, 83), (⟨"BootHallModel", "fail", "(I)V"⟩, 83), (⟨"BootHallModel", "next", "()V"⟩, 83), (⟨"BootHallModel", "must", "(I)V"⟩, 83), (⟨"BootHallModel", "wrong", "(II)V"⟩, 83), (⟨"BootHallModel", "relation", "(Z)V"⟩, 83), (⟨"BootHallModel", "expression", "()V"⟩, 83), (⟨"BootHallModel", "emit", "(II)V"⟩, 83), (⟨"BootHallModel", "comesOut", "(Z)V"⟩, 83), (⟨"BootHallModel", "isMachine", "(I)Z"⟩, 83)]
theorem lw_r3 : ∀ q ∈ lw_privs_3, lw_okq q := List.forall_mem_cons.mpr ⟨lw_p32, List.forall_mem_cons.mpr ⟨lw_p33, List.forall_mem_cons.mpr ⟨lw_p34, List.forall_mem_cons.mpr ⟨lw_p35, List.forall_mem_cons.mpr ⟨lw_p36, List.forall_mem_cons.mpr ⟨lw_p37, List.forall_mem_cons.mpr ⟨lw_p38, List.forall_mem_cons.mpr ⟨lw_p39, List.forall_mem_cons.mpr ⟨lw_p40, List.forall_mem_cons.mpr ⟨lw_p41, List.forall_mem_cons.mpr ⟨lw_p42, List.forall_mem_cons.mpr ⟨lw_p43, List.forall_mem_cons.mpr ⟨lw_p44, List.forall_mem_cons.mpr ⟨lw_p45, List.forall_mem_cons.mpr ⟨lw_p46, List.forall_mem_cons.mpr ⟨lw_p47, fun _ h => absurd h List.not_mem_nil⟩⟩⟩⟩⟩⟩⟩⟩⟩⟩⟩⟩⟩⟩⟩⟩
theorem lw_p48 : lw_okq (⟨"BootHallModel", "fact", "()I"⟩, 83) := ⟨⟨by decide +kernel, by decide +kernel⟩, List.mem_of_getElem? (i := 778) (by decide +kernel), List.mem_of_getElem? (i := 1150) (by decide +kernel), List.mem_of_getElem? (i := 1151) (by decide +kernel)⟩
theorem lw_p49 : lw_okq (⟨"BootHallModel", "isFile", "(I)Z"⟩, 83) := ⟨⟨by decide +kernel, by decide +kernel⟩, List.mem_of_getElem? (i := 778) (by decide +kernel), List.mem_of_getElem? (i := 1158) (by decide +kernel), List.mem_of_getElem? (i := 1159) (by decide +kernel)⟩
theorem lw_p50 : lw_okq (⟨"BootHallModel", "goes", "()V"⟩, 83) := ⟨⟨by decide +kernel, by decide +kernel⟩, List.mem_of_getElem? (i := 778) (by decide +kernel), List.mem_of_getElem? (i := 1174) (by decide +kernel), List.mem_of_getElem? (i := 1175) (by decide +kernel)⟩
theorem lw_p51 : lw_okq (⟨"BootHallModel", "clears", "(I)V"⟩, 83) := ⟨⟨by decide +kernel, by decide +kernel⟩, List.mem_of_getElem? (i := 778) (by decide +kernel), List.mem_of_getElem? (i := 1178) (by decide +kernel), List.mem_of_getElem? (i := 1179) (by decide +kernel)⟩
theorem lw_p52 : lw_okq (⟨"BootHallModel", "powers", "(II)V"⟩, 83) := ⟨⟨by decide +kernel, by decide +kernel⟩, List.mem_of_getElem? (i := 778) (by decide +kernel), List.mem_of_getElem? (i := 1182) (by decide +kernel), List.mem_of_getElem? (i := 1183) (by decide +kernel)⟩
theorem lw_p53 : lw_okq (⟨"BootHallModel", "question", "(II)V"⟩, 83) := ⟨⟨by decide +kernel, by decide +kernel⟩, List.mem_of_getElem? (i := 778) (by decide +kernel), List.mem_of_getElem? (i := 1186) (by decide +kernel), List.mem_of_getElem? (i := 1187) (by decide +kernel)⟩
theorem lw_p54 : lw_okq (⟨"BootHallModel", "asks", "(IIIII)V"⟩, 83) := ⟨⟨by decide +kernel, by decide +kernel⟩, List.mem_of_getElem? (i := 778) (by decide +kernel), List.mem_of_getElem? (i := 1190) (by decide +kernel), List.mem_of_getElem? (i := 1191) (by decide +kernel)⟩
theorem lw_p55 : lw_okq (⟨"BootHallModel", "answers", "(I)I"⟩, 83) := ⟨⟨by decide +kernel, by decide +kernel⟩, List.mem_of_getElem? (i := 778) (by decide +kernel), List.mem_of_getElem? (i := 1194) (by decide +kernel), List.mem_of_getElem? (i := 1195) (by decide +kernel)⟩
theorem lw_p56 : lw_okq (⟨"BootHallModel", "holds", "(II)Z"⟩, 83) := ⟨⟨by decide +kernel, by decide +kernel⟩, List.mem_of_getElem? (i := 778) (by decide +kernel), List.mem_of_getElem? (i := 1198) (by decide +kernel), List.mem_of_getElem? (i := 1199) (by decide +kernel)⟩
theorem lw_p57 : lw_okq (⟨"BootHallModel", "value", "(II)I"⟩, 83) := ⟨⟨by decide +kernel, by decide +kernel⟩, List.mem_of_getElem? (i := 778) (by decide +kernel), List.mem_of_getElem? (i := 1202) (by decide +kernel), List.mem_of_getElem? (i := 1203) (by decide +kernel)⟩
theorem lw_p58 : lw_okq (⟨"BootHallModel", "rescue", "(II)V"⟩, 83) := ⟨⟨by decide +kernel, by decide +kernel⟩, List.mem_of_getElem? (i := 778) (by decide +kernel), List.mem_of_getElem? (i := 1206) (by decide +kernel), List.mem_of_getElem? (i := 1207) (by decide +kernel)⟩
theorem lw_p59 : lw_okq (⟨"BootHallModel", "gives", "(I)V"⟩, 83) := ⟨⟨by decide +kernel, by decide +kernel⟩, List.mem_of_getElem? (i := 778) (by decide +kernel), List.mem_of_getElem? (i := 1210) (by decide +kernel), List.mem_of_getElem? (i := 1211) (by decide +kernel)⟩
theorem lw_p60 : lw_okq (⟨"BootHallModel", "wants", "(II)Z"⟩, 83) := ⟨⟨by decide +kernel, by decide +kernel⟩, List.mem_of_getElem? (i := 778) (by decide +kernel), List.mem_of_getElem? (i := 1214) (by decide +kernel), List.mem_of_getElem? (i := 1215) (by decide +kernel)⟩
theorem lw_p61 : lw_okq (⟨"BootHallModel", "gets", "(II)V"⟩, 83) := ⟨⟨by decide +kernel, by decide +kernel⟩, List.mem_of_getElem? (i := 778) (by decide +kernel), List.mem_of_getElem? (i := 1218) (by decide +kernel), List.mem_of_getElem? (i := 1219) (by decide +kernel)⟩
theorem lw_p62 : lw_okq (⟨"BootHallModel", "writes", "(I)V"⟩, 83) := ⟨⟨by decide +kernel, by decide +kernel⟩, List.mem_of_getElem? (i := 778) (by decide +kernel), List.mem_of_getElem? (i := 1222) (by decide +kernel), List.mem_of_getElem? (i := 1223) (by decide +kernel)⟩
theorem lw_p63 : lw_okq (⟨"BootHallModel", "keeps", "(II)V"⟩, 83) := ⟨⟨by decide +kernel, by decide +kernel⟩, List.mem_of_getElem? (i := 778) (by decide +kernel), List.mem_of_getElem? (i := 1226) (by decide +kernel), List.mem_of_getElem? (i := 1227) (by decide +kernel)⟩
def lw_privs_4 : List (MethodName × Nat) := [(⟨"BootHallModel", "fact", "()I"⟩, 83), (⟨"BootHallModel", "isFile", "(I)Z"⟩, 83), (⟨"BootHallModel", "goes", "()V"⟩, 83), (⟨"BootHallModel", "clears", "(I)V"⟩, 83), (⟨"BootHallModel", "powers", "(II)V"⟩, 83), (⟨"BootHallModel", "question", "(II)V"⟩, 83), (⟨"BootHallModel", "asks", "(IIIII)V"⟩, 83), (⟨"BootHallModel", "answers", "(I)I"⟩, 83), (⟨"BootHallModel", "holds", "(II)Z"⟩, 83), (⟨"BootHallModel", "value", "(II)I"⟩, 83), (⟨"BootHallModel", "rescue", "(II)V"⟩, 83), (⟨"BootHallModel", "gives", "(I)V"⟩, 83), (⟨"BootHallModel", "wants", "(II)Z"⟩, 83), (⟨"BootHallModel", "gets", "(II)V"⟩, 83), (⟨"BootHallModel", "writes", "(I)V"⟩, 83), (⟨"BootHallModel", "keeps", "(II)V"⟩, 83)]
theorem lw_r4 : ∀ q ∈ lw_privs_4, lw_okq q := List.forall_mem_cons.mpr ⟨lw_p48, List.forall_mem_cons.mpr ⟨lw_p49, List.forall_mem_cons.mpr ⟨lw_p50, List.forall_mem_cons.mpr ⟨lw_p51, List.forall_mem_cons.mpr ⟨lw_p52, List.forall_mem_cons.mpr ⟨lw_p53, List.forall_mem_cons.mpr ⟨lw_p54, List.forall_mem_cons.mpr ⟨lw_p55, List.forall_mem_cons.mpr ⟨lw_p56, List.forall_mem_cons.mpr ⟨lw_p57, List.forall_mem_cons.mpr ⟨lw_p58, List.forall_mem_cons.mpr ⟨lw_p59, List.forall_mem_cons.mpr ⟨lw_p60, List.forall_mem_cons.mpr ⟨lw_p61, List.forall_mem_cons.mpr ⟨lw_p62, List.forall_mem_cons.mpr ⟨lw_p63, fun _ h => absurd h List.not_mem_nil⟩⟩⟩⟩⟩⟩⟩⟩⟩⟩⟩⟩⟩⟩⟩⟩
theorem lw_p64 : lw_okq (⟨"BootHallModel", "isDone", "(I)Z"⟩, 83) := ⟨⟨by decide +kernel, by decide +kernel⟩, List.mem_of_getElem? (i := 778) (by decide +kernel), List.mem_of_getElem? (i := 1247) (by decide +kernel), List.mem_of_getElem? (i := 1248) (by decide +kernel)⟩
def lw_privs_5 : List (MethodName × Nat) := [(⟨"BootHallModel", "isDone", "(I)Z"⟩, 83)]
theorem lw_r5 : ∀ q ∈ lw_privs_5, lw_okq q := List.forall_mem_cons.mpr ⟨lw_p64, fun _ h => absurd h List.not_mem_nil⟩
def lw_privs : List (MethodName × Nat) := lw_privs_1 ++ (lw_privs_2 ++ (lw_privs_3 ++ (lw_privs_4 ++ (lw_privs_5))))
def lw_tbl : List Cond := k2_sels lw_privs ++ tables_1
theorem lw_privs_ok : ∀ q ∈ lw_privs, lw_okq q := by
  show ∀ q ∈ lw_privs_1 ++ (lw_privs_2 ++ (lw_privs_3 ++ (lw_privs_4 ++ (lw_privs_5)))), lw_okq q
  exact List.forall_mem_append.mpr ⟨lw_r1, List.forall_mem_append.mpr ⟨lw_r2, List.forall_mem_append.mpr ⟨lw_r3, List.forall_mem_append.mpr ⟨lw_r4, lw_r5⟩⟩⟩⟩
end
section
def RX0 : String := "BootHall$Facts"
def TX0 : u_T := fun k => match k with
  | 0 => ("BootHall$Facts", "told", "I", false)
  | 1 => ("BootHall$Facts", "lastCut", "I", false)
  | 2 => ("BootHall$Facts", "bits", "[I", true)
  | _ => ("BootHall$Facts", "wrong", "[J", true)
def tyX0 : Nat → FieldType := fun k => match k with
  | 0 => .int
  | 1 => .int
  | 2 => .array .int
  | _ => .array .long
theorem nmX0 : ∀ a, a < 4 → ∀ b, b < 4 → a ≠ b → (TX0 a).2.1 ≠ (TX0 b).2.1 := by decide +kernel
theorem tyX0_ok : ∀ k, k < 4 → parseFieldDescriptor (TX0 k).2.2.1 = some (tyX0 k) := by decide +kernel
abbrev cX0_init : ByteArray := prog_2_method_1_code
def yX0_init : MethodName := ⟨RX0, "<init>", "()V"⟩
abbrev cX0_isFull : ByteArray := prog_2_method_2_code
def yX0_isFull : MethodName := ⟨RX0, "isFull", "()Z"⟩
abbrev cX0_addLost : ByteArray := prog_2_method_3_code
def yX0_addLost : MethodName := ⟨RX0, "addLost", "(II)I"⟩
abbrev cX0_addCut : ByteArray := prog_2_method_4_code
def yX0_addCut : MethodName := ⟨RX0, "addCut", "(II)I"⟩
abbrev cX0_addDown : ByteArray := prog_2_method_5_code
def yX0_addDown : MethodName := ⟨RX0, "addDown", "(III)I"⟩
abbrev cX0_addWrong : ByteArray := prog_2_method_6_code
def yX0_addWrong : MethodName := ⟨RX0, "addWrong", "(II)I"⟩
abbrev cX0_isLost : ByteArray := prog_2_method_7_code
def yX0_isLost : MethodName := ⟨RX0, "isLost", "(II)Z"⟩
abbrev cX0_isCut : ByteArray := prog_2_method_8_code
def yX0_isCut : MethodName := ⟨RX0, "isCut", "(II)Z"⟩
abbrev cX0_isDown : ByteArray := prog_2_method_9_code
def yX0_isDown : MethodName := ⟨RX0, "isDown", "(II)Z"⟩
abbrev cX0_isWrong : ByteArray := prog_2_method_10_code
def yX0_isWrong : MethodName := ⟨RX0, "isWrong", "(II)Z"⟩
def RX1 : String := "BootHall$Hall"
def TX1 : u_T := fun k => match k with
  | 0 => ("BootHall$Hall", "machines", "[LBootHall$Machine;", true)
  | 1 => ("BootHall$Hall", "machineCount", "I", false)
  | 2 => ("BootHall$Hall", "blocks", "[I", true)
  | 3 => ("BootHall$Hall", "nexts", "[I", true)
  | 4 => ("BootHall$Hall", "fileCount", "I", false)
  | 5 => ("BootHall$Hall", "width", "I", false)
  | 6 => ("BootHall$Hall", "wakes", "[I", true)
  | 7 => ("BootHall$Hall", "facts", "LBootHall$Facts;", true)
  | _ => ("BootHall$Hall", "keepers", "[LBootHall$Rules;", true)
def tyX1 : Nat → FieldType := fun k => match k with
  | 0 => .array (.object "BootHall$Machine")
  | 1 => .int
  | 2 => .array .int
  | 3 => .array .int
  | 4 => .int
  | 5 => .int
  | 6 => .array .int
  | 7 => .object "BootHall$Facts"
  | _ => .array (.object "BootHall$Rules")
theorem nmX1 : ∀ a, a < 9 → ∀ b, b < 9 → a ≠ b → (TX1 a).2.1 ≠ (TX1 b).2.1 := by decide +kernel
theorem tyX1_ok : ∀ k, k < 9 → parseFieldDescriptor (TX1 k).2.2.1 = some (tyX1 k) := by decide +kernel
abbrev cX1_init : ByteArray := prog_3_method_1_code
def yX1_init : MethodName := ⟨RX1, "<init>", "()V"⟩
abbrev cX1_addMachine : ByteArray := prog_3_method_2_code
def yX1_addMachine : MethodName := ⟨RX1, "addMachine", "(III)I"⟩
abbrev cX1_addFile : ByteArray := prog_3_method_3_code
def yX1_addFile : MethodName := ⟨RX1, "addFile", "(II)I"⟩
abbrev cX1_hasBlock : ByteArray := prog_3_method_4_code
def yX1_hasBlock : MethodName := ⟨RX1, "hasBlock", "(II)Z"⟩
abbrev cX1_setWakes : ByteArray := prog_3_method_5_code
def yX1_setWakes : MethodName := ⟨RX1, "setWakes", "(II)Z"⟩
abbrev cX1_hasKind : ByteArray := prog_3_method_6_code
def yX1_hasKind : MethodName := ⟨RX1, "hasKind", "(I)Z"⟩
abbrev cX1_mustWait : ByteArray := prog_3_method_7_code
def yX1_mustWait : MethodName := ⟨RX1, "mustWait", "(II)Z"⟩
def RX2 : String := "BootHall$Machine"
def TX2 : u_T := fun k => match k with
  | 0 => ("BootHall$Machine", "kind", "I", false)
  | 1 => ("BootHall$Machine", "place", "I", false)
  | 2 => ("BootHall$Machine", "mark", "I", false)
  | 3 => ("BootHall$Machine", "phase", "I", false)
  | 4 => ("BootHall$Machine", "file", "I", false)
  | 5 => ("BootHall$Machine", "block", "I", false)
  | 6 => ("BootHall$Machine", "disk", "I", false)
  | 7 => ("BootHall$Machine", "reason", "I", false)
  | 8 => ("BootHall$Machine", "tries", "I", false)
  | 9 => ("BootHall$Machine", "bad", "I", false)
  | 10 => ("BootHall$Machine", "misses", "I", false)
  | 11 => ("BootHall$Machine", "begun", "I", false)
  | 12 => ("BootHall$Machine", "chain", "I", false)
  | 13 => ("BootHall$Machine", "asksFrom", "I", false)
  | 14 => ("BootHall$Machine", "since", "I", false)
  | _ => ("BootHall$Machine", "offUntil", "I", false)
def tyX2 : Nat → FieldType := fun k => match k with
  | 0 => .int
  | 1 => .int
  | 2 => .int
  | 3 => .int
  | 4 => .int
  | 5 => .int
  | 6 => .int
  | 7 => .int
  | 8 => .int
  | 9 => .int
  | 10 => .int
  | 11 => .int
  | 12 => .int
  | 13 => .int
  | 14 => .int
  | _ => .int
theorem nmX2 : ∀ a, a < 16 → ∀ b, b < 16 → a ≠ b → (TX2 a).2.1 ≠ (TX2 b).2.1 := by decide +kernel
theorem tyX2_ok : ∀ k, k < 16 → parseFieldDescriptor (TX2 k).2.2.1 = some (tyX2 k) := by decide +kernel
abbrev cX2_init : ByteArray := prog_4_method_1_code
def yX2_init : MethodName := ⟨RX2, "<init>", "()V"⟩
abbrev cX2_reset : ByteArray := prog_4_method_2_code
def yX2_reset : MethodName := ⟨RX2, "reset", "()V"⟩
abbrev cX2_losePower : ByteArray := prog_4_method_3_code
def yX2_losePower : MethodName := ⟨RX2, "losePower", "(I)V"⟩
abbrev cX2_begin : ByteArray := prog_4_method_4_code
def yX2_begin : MethodName := ⟨RX2, "begin", "(I)V"⟩
abbrev cX2_failToAsk : ByteArray := prog_4_method_5_code
def yX2_failToAsk : MethodName := ⟨RX2, "failToAsk", "(II)V"⟩
abbrev cX2_fetch : ByteArray := prog_4_method_6_code
def yX2_fetch : MethodName := ⟨RX2, "fetch", "(III)V"⟩
abbrev cX2_getNone : ByteArray := prog_4_method_7_code
def yX2_getNone : MethodName := ⟨RX2, "getNone", "()V"⟩
abbrev cX2_getWrong : ByteArray := prog_4_method_8_code
def yX2_getWrong : MethodName := ⟨RX2, "getWrong", "()V"⟩
abbrev cX2_install : ByteArray := prog_4_method_9_code
def yX2_install : MethodName := ⟨RX2, "install", "(I)V"⟩
abbrev cX2_write : ByteArray := prog_4_method_10_code
def yX2_write : MethodName := ⟨RX2, "write", "(I)V"⟩
abbrev cX2_enterRescue : ByteArray := prog_4_method_11_code
def yX2_enterRescue : MethodName := ⟨RX2, "enterRescue", "(I)V"⟩
abbrev cX2_isSettled : ByteArray := prog_4_method_12_code
def yX2_isSettled : MethodName := ⟨RX2, "isSettled", "()Z"⟩
abbrev cX2_snapshot : ByteArray := prog_4_method_13_code
def yX2_snapshot : MethodName := ⟨RX2, "snapshot", "()J"⟩
abbrev cX2_enter : ByteArray := prog_4_method_14_code
def yX2_enter : MethodName := ⟨RX2, "enter", "(I)V"⟩
abbrev cX2_clearTallies : ByteArray := prog_4_method_15_code
def yX2_clearTallies : MethodName := ⟨RX2, "clearTallies", "()V"⟩
def RX3 : String := "BootHall$Reader"
def TX3 : u_T := fun k => match k with
  | 0 => ("BootHall$Reader", "scanner", "LBootHall$Scanner;", true)
  | 1 => ("BootHall$Reader", "operators", "[I", true)
  | 2 => ("BootHall$Reader", "pending", "I", false)
  | 3 => ("BootHall$Reader", "rules", "LBootHall$Rules;", false)
  | 4 => ("BootHall$Reader", "expected", "I", false)
  | 5 => ("BootHall$Reader", "open", "I", false)
  | 6 => ("BootHall$Reader", "related", "Z", false)
  | 7 => ("BootHall$Reader", "firstWrong", "I", false)
  | _ => ("BootHall$Reader", "faultPlace", "I", false)
def tyX3 : Nat → FieldType := fun k => match k with
  | 0 => .object "BootHall$Scanner"
  | 1 => .array .int
  | 2 => .int
  | 3 => .object "BootHall$Rules"
  | 4 => .int
  | 5 => .int
  | 6 => .boolean
  | 7 => .int
  | _ => .int
theorem nmX3 : ∀ a, a < 9 → ∀ b, b < 9 → a ≠ b → (TX3 a).2.1 ≠ (TX3 b).2.1 := by decide +kernel
theorem tyX3_ok : ∀ k, k < 9 → parseFieldDescriptor (TX3 k).2.2.1 = some (tyX3 k) := by decide +kernel
abbrev cX3_init : ByteArray := prog_5_method_1_code
def yX3_init : MethodName := ⟨RX3, "<init>", "(LBootHall$Tape;)V"⟩
abbrev cX3_exchange : ByteArray := prog_5_method_2_code
def yX3_exchange : MethodName := ⟨RX3, "exchange", "(LBootHall$Rules;)LBootHall$Rules;"⟩
abbrev cX3_compile : ByteArray := prog_5_method_3_code
def yX3_compile : MethodName := ⟨RX3, "compile", "()I"⟩
abbrev cX3_begin : ByteArray := prog_5_method_4_code
def yX3_begin : MethodName := ⟨RX3, "begin", "()V"⟩
abbrev cX3_following : ByteArray := prog_5_method_5_code
def yX3_following : MethodName := ⟨RX3, "following", "(I)I"⟩
abbrev cX3_followingUnit : ByteArray := prog_5_method_6_code
def yX3_followingUnit : MethodName := ⟨RX3, "followingUnit", "(I)I"⟩
abbrev cX3_isOverfull : ByteArray := prog_5_method_7_code
def yX3_isOverfull : MethodName := ⟨RX3, "isOverfull", "()Z"⟩
abbrev cX3_take : ByteArray := prog_5_method_8_code
def yX3_take : MethodName := ⟨RX3, "take", "()V"⟩
abbrev cX3_takeNumber : ByteArray := prog_5_method_9_code
def yX3_takeNumber : MethodName := ⟨RX3, "takeNumber", "(I)V"⟩
abbrev cX3_takeUnit : ByteArray := prog_5_method_10_code
def yX3_takeUnit : MethodName := ⟨RX3, "takeUnit", "()V"⟩
abbrev cX3_takeBehindUnit : ByteArray := prog_5_method_11_code
def yX3_takeBehindUnit : MethodName := ⟨RX3, "takeBehindUnit", "()V"⟩
abbrev cX3_emitDownTo : ByteArray := prog_5_method_12_code
def yX3_emitDownTo : MethodName := ⟨RX3, "emitDownTo", "(I)V"⟩
abbrev cX3_push : ByteArray := prog_5_method_13_code
def yX3_push : MethodName := ⟨RX3, "push", "(I)V"⟩
def RX4 : String := "BootHall$Rules"
def TX4 : u_T := fun k => match k with
  | 0 => ("BootHall$Rules", "size", "I", false)
  | 1 => ("BootHall$Rules", "codeLength", "I", false)
  | 2 => ("BootHall$Rules", "isAfter", "[Z", true)
  | 3 => ("BootHall$Rules", "numbers", "[I", true)
  | 4 => ("BootHall$Rules", "starts", "[I", true)
  | 5 => ("BootHall$Rules", "stops", "[I", true)
  | 6 => ("BootHall$Rules", "code", "[I", true)
  | _ => ("BootHall$Rules", "stack", "[I", true)
def tyX4 : Nat → FieldType := fun k => match k with
  | 0 => .int
  | 1 => .int
  | 2 => .array .boolean
  | 3 => .array .int
  | 4 => .array .int
  | 5 => .array .int
  | 6 => .array .int
  | _ => .array .int
theorem nmX4 : ∀ a, a < 8 → ∀ b, b < 8 → a ≠ b → (TX4 a).2.1 ≠ (TX4 b).2.1 := by decide +kernel
theorem tyX4_ok : ∀ k, k < 8 → parseFieldDescriptor (TX4 k).2.2.1 = some (tyX4 k) := by decide +kernel
abbrev cX4_init : ByteArray := prog_6_method_1_code
def yX4_init : MethodName := ⟨RX4, "<init>", "()V"⟩
abbrev cX4_clear : ByteArray := prog_6_method_2_code
def yX4_clear : MethodName := ⟨RX4, "clear", "()V"⟩
abbrev cX4_add : ByteArray := prog_6_method_3_code
def yX4_add : MethodName := ⟨RX4, "add", "(Z)V"⟩
abbrev cX4_setNumber : ByteArray := prog_6_method_4_code
def yX4_setNumber : MethodName := ⟨RX4, "setNumber", "(I)V"⟩
abbrev cX4_emit : ByteArray := prog_6_method_5_code
def yX4_emit : MethodName := ⟨RX4, "emit", "(I)V"⟩
abbrev cX4_choose : ByteArray := prog_6_method_6_code
def yX4_choose : MethodName := ⟨RX4, "choose", "([II)I"⟩
abbrev cX4_kindsAhead : ByteArray := prog_6_method_7_code
def yX4_kindsAhead : MethodName := ⟨RX4, "kindsAhead", "([I)I"⟩
abbrev cX4_holds : ByteArray := prog_6_method_8_code
def yX4_holds : MethodName := ⟨RX4, "holds", "(I[I)Z"⟩
abbrev cX4_valueOf : ByteArray := prog_6_method_9_code
def yX4_valueOf : MethodName := ⟨RX4, "valueOf", "(I[I)I"⟩
abbrev cX4_apply : ByteArray := prog_6_method_10_code
def yX4_apply : MethodName := ⟨RX4, "apply", "(III)I"⟩
def RX5 : String := "BootHall$Run"
def TX5 : u_T := fun k => match k with
  | 0 => ("BootHall$Run", "hall", "LBootHall$Hall;", true)
  | 1 => ("BootHall$Run", "record", "[J", true)
  | 2 => ("BootHall$Run", "sendings", "[I", true)
  | 3 => ("BootHall$Run", "timesSent", "[I", true)
  | 4 => ("BootHall$Run", "lastSent", "[I", true)
  | 5 => ("BootHall$Run", "allSent", "I", false)
  | 6 => ("BootHall$Run", "lastUnsettled", "I", false)
  | 7 => ("BootHall$Run", "line", "[I", true)
  | _ => ("BootHall$Run", "vars", "[I", true)
def tyX5 : Nat → FieldType := fun k => match k with
  | 0 => .object "BootHall$Hall"
  | 1 => .array .long
  | 2 => .array .int
  | 3 => .array .int
  | 4 => .array .int
  | 5 => .int
  | 6 => .int
  | 7 => .array .int
  | _ => .array .int
theorem nmX5 : ∀ a, a < 9 → ∀ b, b < 9 → a ≠ b → (TX5 a).2.1 ≠ (TX5 b).2.1 := by decide +kernel
theorem tyX5_ok : ∀ k, k < 9 → parseFieldDescriptor (TX5 k).2.2.1 = some (tyX5 k) := by decide +kernel
abbrev cX5_init : ByteArray := prog_7_method_1_code
def yX5_init : MethodName := ⟨RX5, "<init>", "(LBootHall$Hall;)V"⟩
abbrev cX5_play : ByteArray := prog_7_method_2_code
def yX5_play : MethodName := ⟨RX5, "play", "(Z)V"⟩
abbrev cX5_reset : ByteArray := prog_7_method_3_code
def yX5_reset : MethodName := ⟨RX5, "reset", "()V"⟩
abbrev cX5_power : ByteArray := prog_7_method_4_code
def yX5_power : MethodName := ⟨RX5, "power", "(I)V"⟩
abbrev cX5_ask : ByteArray := prog_7_method_5_code
def yX5_ask : MethodName := ⟨RX5, "ask", "(I)V"⟩
abbrev cX5_question : ByteArray := prog_7_method_6_code
def yX5_question : MethodName := ⟨RX5, "question", "(ILBootHall$Machine;I)V"⟩
abbrev cX5_setVars : ByteArray := prog_7_method_7_code
def yX5_setVars : MethodName := ⟨RX5, "setVars", "(LBootHall$Machine;IIII)V"⟩
abbrev cX5_send : ByteArray := prog_7_method_8_code
def yX5_send : MethodName := ⟨RX5, "send", "(I)V"⟩
abbrev cX5_lineUp : ByteArray := prog_7_method_9_code
def yX5_lineUp : MethodName := ⟨RX5, "lineUp", "(I)I"⟩
abbrev cX5_wantedBlock : ByteArray := prog_7_method_10_code
def yX5_wantedBlock : MethodName := ⟨RX5, "wantedBlock", "(LBootHall$Machine;)I"⟩
abbrev cX5_receive : ByteArray := prog_7_method_11_code
def yX5_receive : MethodName := ⟨RX5, "receive", "(II)V"⟩
abbrev cX5_goOn : ByteArray := prog_7_method_12_code
def yX5_goOn : MethodName := ⟨RX5, "goOn", "(LBootHall$Machine;I)V"⟩
abbrev cX5_install : ByteArray := prog_7_method_13_code
def yX5_install : MethodName := ⟨RX5, "install", "(I)V"⟩
abbrev cX5_isSettled : ByteArray := prog_7_method_14_code
def yX5_isSettled : MethodName := ⟨RX5, "isSettled", "()Z"⟩
abbrev cX5_keep : ByteArray := prog_7_method_15_code
def yX5_keep : MethodName := ⟨RX5, "keep", "(I)V"⟩
abbrev cX5_recorded : ByteArray := prog_7_method_16_code
def yX5_recorded : MethodName := ⟨RX5, "recorded", "(III)I"⟩
abbrev cX5_answerAtEnd : ByteArray := prog_7_method_17_code
def yX5_answerAtEnd : MethodName := ⟨RX5, "answerAtEnd", "(III)I"⟩
abbrev cX5_change : ByteArray := prog_7_method_18_code
def yX5_change : MethodName := ⟨RX5, "change", "(II)I"⟩
abbrev cX5_settledFrom : ByteArray := prog_7_method_19_code
def yX5_settledFrom : MethodName := ⟨RX5, "settledFrom", "()I"⟩
abbrev cX5_upBits : ByteArray := prog_7_method_20_code
def yX5_upBits : MethodName := ⟨RX5, "upBits", "()I"⟩
abbrev cX5_cost : ByteArray := prog_7_method_21_code
def yX5_cost : MethodName := ⟨RX5, "cost", "()I"⟩
def RX6 : String := "BootHall$Scanner"
def TX6 : u_T := fun k => match k with
  | 0 => ("BootHall$Scanner", "tape", "LBootHall$Tape;", true)
  | 1 => ("BootHall$Scanner", "next", "I", false)
  | 2 => ("BootHall$Scanner", "at", "I", false)
  | 3 => ("BootHall$Scanner", "sort", "I", false)
  | _ => ("BootHall$Scanner", "value", "I", false)
def tyX6 : Nat → FieldType := fun k => match k with
  | 0 => .object "BootHall$Tape"
  | 1 => .int
  | 2 => .int
  | 3 => .int
  | _ => .int
theorem nmX6 : ∀ a, a < 5 → ∀ b, b < 5 → a ≠ b → (TX6 a).2.1 ≠ (TX6 b).2.1 := by decide +kernel
theorem tyX6_ok : ∀ k, k < 5 → parseFieldDescriptor (TX6 k).2.2.1 = some (tyX6 k) := by decide +kernel
abbrev cX6_init : ByteArray := prog_8_method_1_code
def yX6_init : MethodName := ⟨RX6, "<init>", "(LBootHall$Tape;)V"⟩
abbrev cX6_restart : ByteArray := prog_8_method_2_code
def yX6_restart : MethodName := ⟨RX6, "restart", "()V"⟩
abbrev cX6_advance : ByteArray := prog_8_method_3_code
def yX6_advance : MethodName := ⟨RX6, "advance", "()V"⟩
abbrev cX6_scanWord : ByteArray := prog_8_method_4_code
def yX6_scanWord : MethodName := ⟨RX6, "scanWord", "()V"⟩
abbrev cX6_scanInt : ByteArray := prog_8_method_5_code
def yX6_scanInt : MethodName := ⟨RX6, "scanInt", "()V"⟩
abbrev cX6_scanSign : ByteArray := prog_8_method_6_code
def yX6_scanSign : MethodName := ⟨RX6, "scanSign", "()V"⟩
abbrev cX6_scanRelation : ByteArray := prog_8_method_7_code
def yX6_scanRelation : MethodName := ⟨RX6, "scanRelation", "(I)V"⟩
abbrev cX6_set : ByteArray := prog_8_method_8_code
def yX6_set : MethodName := ⟨RX6, "set", "(II)V"⟩
abbrev cX6_isBlank : ByteArray := prog_8_method_9_code
def yX6_isBlank : MethodName := ⟨RX6, "isBlank", "(I)Z"⟩
abbrev cX6_isLetter : ByteArray := prog_8_method_10_code
def yX6_isLetter : MethodName := ⟨RX6, "isLetter", "(I)Z"⟩
abbrev cX6_isDigit : ByteArray := prog_8_method_11_code
def yX6_isDigit : MethodName := ⟨RX6, "isDigit", "(I)Z"⟩
def RX7 : String := "BootHall$Tape"
def TX7 : u_T := fun k => match k with
  | 0 => ("BootHall$Tape", "bytes", "[I", true)
  | _ => ("BootHall$Tape", "length", "I", false)
def tyX7 : Nat → FieldType := fun k => match k with
  | 0 => .array .int
  | _ => .int
theorem nmX7 : ∀ a, a < 2 → ∀ b, b < 2 → a ≠ b → (TX7 a).2.1 ≠ (TX7 b).2.1 := by decide +kernel
theorem tyX7_ok : ∀ k, k < 2 → parseFieldDescriptor (TX7 k).2.2.1 = some (tyX7 k) := by decide +kernel
abbrev cX7_init : ByteArray := prog_9_method_1_code
def yX7_init : MethodName := ⟨RX7, "<init>", "()V"⟩
abbrev cX7_append : ByteArray := prog_9_method_2_code
def yX7_append : MethodName := ⟨RX7, "append", "(I)V"⟩
def RX8 : String := "BootHall"
def TX8 : u_T := fun k => match k with
  | 0 => ("BootHall", "tape", "LBootHall$Tape;", true)
  | 1 => ("BootHall", "reader", "LBootHall$Reader;", true)
  | 2 => ("BootHall", "hall", "LBootHall$Hall;", true)
  | 3 => ("BootHall", "run", "LBootHall$Run;", true)
  | _ => ("BootHall", "stale", "Z", false)
def tyX8 : Nat → FieldType := fun k => match k with
  | 0 => .object "BootHall$Tape"
  | 1 => .object "BootHall$Reader"
  | 2 => .object "BootHall$Hall"
  | 3 => .object "BootHall$Run"
  | _ => .boolean
theorem nmX8 : ∀ a, a < 5 → ∀ b, b < 5 → a ≠ b → (TX8 a).2.1 ≠ (TX8 b).2.1 := by decide +kernel
theorem tyX8_ok : ∀ k, k < 5 → parseFieldDescriptor (TX8 k).2.2.1 = some (tyX8 k) := by decide +kernel
abbrev cX8_init : ByteArray := prog_1_method_1_code
def yX8_init : MethodName := ⟨RX8, "<init>", "()V"⟩
abbrev cX8_feed : ByteArray := prog_1_method_2_code
def yX8_feed : MethodName := ⟨RX8, "feed", "(IIIII)I"⟩
abbrev cX8_back : ByteArray := prog_1_method_3_code
def yX8_back : MethodName := ⟨RX8, "back", "(I)I"⟩
abbrev cX8_read : ByteArray := prog_1_method_4_code
def yX8_read : MethodName := ⟨RX8, "read", "(I)I"⟩
abbrev cX8_place : ByteArray := prog_1_method_5_code
def yX8_place : MethodName := ⟨RX8, "place", "()I"⟩
abbrev cX8_machine : ByteArray := prog_1_method_6_code
def yX8_machine : MethodName := ⟨RX8, "machine", "(III)I"⟩
abbrev cX8_file : ByteArray := prog_1_method_7_code
def yX8_file : MethodName := ⟨RX8, "file", "(II)I"⟩
abbrev cX8_width : ByteArray := prog_1_method_8_code
def yX8_width : MethodName := ⟨RX8, "width", "(I)Z"⟩
abbrev cX8_wake : ByteArray := prog_1_method_9_code
def yX8_wake : MethodName := ⟨RX8, "wake", "(II)Z"⟩
abbrev cX8_lose : ByteArray := prog_1_method_10_code
def yX8_lose : MethodName := ⟨RX8, "lose", "(II)I"⟩
abbrev cX8_spoil : ByteArray := prog_1_method_11_code
def yX8_spoil : MethodName := ⟨RX8, "spoil", "(III)I"⟩
abbrev cX8_down : ByteArray := prog_1_method_12_code
def yX8_down : MethodName := ⟨RX8, "down", "(III)I"⟩
abbrev cX8_cut : ByteArray := prog_1_method_13_code
def yX8_cut : MethodName := ⟨RX8, "cut", "(II)I"⟩
abbrev cX8_answer : ByteArray := prog_1_method_14_code
def yX8_answer : MethodName := ⟨RX8, "answer", "(III)I"⟩
abbrev cX8_state : ByteArray := prog_1_method_15_code
def yX8_state : MethodName := ⟨RX8, "state", "(III)I"⟩
abbrev cX8_sends : ByteArray := prog_1_method_16_code
def yX8_sends : MethodName := ⟨RX8, "sends", "(I)I"⟩
abbrev cX8_sent : ByteArray := prog_1_method_17_code
def yX8_sent : MethodName := ⟨RX8, "sent", "(II)I"⟩
abbrev cX8_ends : ByteArray := prog_1_method_18_code
def yX8_ends : MethodName := ⟨RX8, "ends", "()I"⟩
abbrev cX8_up : ByteArray := prog_1_method_19_code
def yX8_up : MethodName := ⟨RX8, "up", "()I"⟩
abbrev cX8_log : ByteArray := prog_1_method_20_code
def yX8_log : MethodName := ⟨RX8, "log", "(II)I"⟩
abbrev cX8_plan : ByteArray := prog_1_method_21_code
def yX8_plan : MethodName := ⟨RX8, "plan", "(I)I"⟩
abbrev cX8_wakes : ByteArray := prog_1_method_22_code
def yX8_wakes : MethodName := ⟨RX8, "wakes", "(I)I"⟩
abbrev cX8_count : ByteArray := prog_1_method_23_code
def yX8_count : MethodName := ⟨RX8, "count", "(I)I"⟩
abbrev cX8_freshen : ByteArray := prog_1_method_24_code
def yX8_freshen : MethodName := ⟨RX8, "freshen", "()V"⟩
abbrev cX8_endOrNone : ByteArray := prog_1_method_25_code
def yX8_endOrNone : MethodName := ⟨RX8, "endOrNone", "(I)I"⟩
abbrev cX8_isBelow : ByteArray := prog_1_method_26_code
def yX8_isBelow : MethodName := ⟨RX8, "isBelow", "(II)Z"⟩
def RX9 : String := "BootHallModel"
def TX9 : u_T := fun k => match k with
  | 0 => ("BootHallModel", "thrown", "I", false)
  | 1 => ("BootHallModel", "tape", "[B", true)
  | 2 => ("BootHallModel", "taped", "I", false)
  | 3 => ("BootHallModel", "text", "[B", true)
  | 4 => ("BootHallModel", "size", "I", false)
  | 5 => ("BootHallModel", "tKind", "[I", true)
  | 6 => ("BootHallModel", "tPlace", "[I", true)
  | 7 => ("BootHallModel", "tValue", "[I", true)
  | 8 => ("BootHallModel", "tName", "[J", true)
  | 9 => ("BootHallModel", "keys", "[J", true)
  | 10 => ("BootHallModel", "tokens", "I", false)
  | 11 => ("BootHallModel", "t", "I", false)
  | 12 => ("BootHallModel", "open", "I", false)
  | 13 => ("BootHallModel", "fault", "I", false)
  | 14 => ("BootHallModel", "faultPlace", "I", false)
  | 15 => ("BootHallModel", "worst", "I", false)
  | 16 => ("BootHallModel", "worstPlace", "I", false)
  | 17 => ("BootHallModel", "place", "I", false)
  | 18 => ("BootHallModel", "live", "[I", true)
  | 19 => ("BootHallModel", "side", "I", false)
  | 20 => ("BootHallModel", "rules", "[I", true)
  | 21 => ("BootHallModel", "ruleSort", "[I", true)
  | 22 => ("BootHallModel", "ruleInt", "[I", true)
  | 23 => ("BootHallModel", "relFirst", "[I", true)
  | 24 => ("BootHallModel", "relLast", "[I", true)
  | 25 => ("BootHallModel", "relations", "[I", true)
  | 26 => ("BootHallModel", "relSort", "[I", true)
  | 27 => ("BootHallModel", "relLeft", "[I", true)
  | 28 => ("BootHallModel", "relRight", "[I", true)
  | 29 => ("BootHallModel", "relEnd", "[I", true)
  | 30 => ("BootHallModel", "relOr", "[Z", true)
  | 31 => ("BootHallModel", "codes", "I", false)
  | 32 => ("BootHallModel", "code", "[I", true)
  | 33 => ("BootHallModel", "codeInt", "[I", true)
  | 34 => ("BootHallModel", "waits", "[I", true)
  | 35 => ("BootHallModel", "waiting", "I", false)
  | 36 => ("BootHallModel", "machines", "I", false)
  | 37 => ("BootHallModel", "kind", "[I", true)
  | 38 => ("BootHallModel", "spot", "[I", true)
  | 39 => ("BootHallModel", "mark", "[I", true)
  | 40 => ("BootHallModel", "wakes", "[I", true)
  | 41 => ("BootHallModel", "files", "I", false)
  | 42 => ("BootHallModel", "blocks", "[I", true)
  | 43 => ("BootHallModel", "loads", "[I", true)
  | 44 => ("BootHallModel", "width", "I", false)
  | 45 => ("BootHallModel", "facts", "I", false)
  | 46 => ("BootHallModel", "isLost", "[Z", true)
  | 47 => ("BootHallModel", "isCut", "[Z", true)
  | 48 => ("BootHallModel", "isDown", "[Z", true)
  | 49 => ("BootHallModel", "isWrong", "[Z", true)
  | 50 => ("BootHallModel", "variables", "[I", true)
  | 51 => ("BootHallModel", "pile", "[I", true)
  | 52 => ("BootHallModel", "behind", "I", false)
  | 53 => ("BootHallModel", "isGone", "Z", false)
  | 54 => ("BootHallModel", "oldState", "[I", true)
  | 55 => ("BootHallModel", "oldFile", "[I", true)
  | 56 => ("BootHallModel", "oldNext", "[I", true)
  | 57 => ("BootHallModel", "oldImage", "[I", true)
  | 58 => ("BootHallModel", "oldReason", "[I", true)
  | 59 => ("BootHallModel", "oldTries", "[I", true)
  | 60 => ("BootHallModel", "oldBad", "[I", true)
  | 61 => ("BootHallModel", "oldMisses", "[I", true)
  | 62 => ("BootHallModel", "oldBegun", "[I", true)
  | 63 => ("BootHallModel", "oldChain", "[I", true)
  | 64 => ("BootHallModel", "sends", "[I", true)
  | 65 => ("BootHallModel", "sent", "[I", true)
  | 66 => ("BootHallModel", "sentAll", "I", false)
  | 67 => ("BootHallModel", "state", "[I", true)
  | 68 => ("BootHallModel", "offTo", "[I", true)
  | 69 => ("BootHallModel", "askAt", "[I", true)
  | 70 => ("BootHallModel", "file", "[I", true)
  | 71 => ("BootHallModel", "block", "[I", true)
  | 72 => ("BootHallModel", "since", "[I", true)
  | 73 => ("BootHallModel", "image", "[I", true)
  | 74 => ("BootHallModel", "reason", "[I", true)
  | 75 => ("BootHallModel", "tries", "[I", true)
  | 76 => ("BootHallModel", "bad", "[I", true)
  | 77 => ("BootHallModel", "misses", "[I", true)
  | 78 => ("BootHallModel", "begun", "[I", true)
  | 79 => ("BootHallModel", "chain", "[I", true)
  | 80 => ("BootHallModel", "isSent", "[Z", true)
  | 81 => ("BootHallModel", "isTaken", "[Z", true)
  | _ => ("BootHallModel", "best", "[I", true)
def tyX9 : Nat → FieldType := fun k => match k with
  | 0 => .int
  | 1 => .array .byte
  | 2 => .int
  | 3 => .array .byte
  | 4 => .int
  | 5 => .array .int
  | 6 => .array .int
  | 7 => .array .int
  | 8 => .array .long
  | 9 => .array .long
  | 10 => .int
  | 11 => .int
  | 12 => .int
  | 13 => .int
  | 14 => .int
  | 15 => .int
  | 16 => .int
  | 17 => .int
  | 18 => .array .int
  | 19 => .int
  | 20 => .array .int
  | 21 => .array .int
  | 22 => .array .int
  | 23 => .array .int
  | 24 => .array .int
  | 25 => .array .int
  | 26 => .array .int
  | 27 => .array .int
  | 28 => .array .int
  | 29 => .array .int
  | 30 => .array .boolean
  | 31 => .int
  | 32 => .array .int
  | 33 => .array .int
  | 34 => .array .int
  | 35 => .int
  | 36 => .int
  | 37 => .array .int
  | 38 => .array .int
  | 39 => .array .int
  | 40 => .array .int
  | 41 => .int
  | 42 => .array .int
  | 43 => .array .int
  | 44 => .int
  | 45 => .int
  | 46 => .array .boolean
  | 47 => .array .boolean
  | 48 => .array .boolean
  | 49 => .array .boolean
  | 50 => .array .int
  | 51 => .array .int
  | 52 => .int
  | 53 => .boolean
  | 54 => .array .int
  | 55 => .array .int
  | 56 => .array .int
  | 57 => .array .int
  | 58 => .array .int
  | 59 => .array .int
  | 60 => .array .int
  | 61 => .array .int
  | 62 => .array .int
  | 63 => .array .int
  | 64 => .array .int
  | 65 => .array .int
  | 66 => .int
  | 67 => .array .int
  | 68 => .array .int
  | 69 => .array .int
  | 70 => .array .int
  | 71 => .array .int
  | 72 => .array .int
  | 73 => .array .int
  | 74 => .array .int
  | 75 => .array .int
  | 76 => .array .int
  | 77 => .array .int
  | 78 => .array .int
  | 79 => .array .int
  | 80 => .array .boolean
  | 81 => .array .boolean
  | _ => .array .int
theorem nmX9 : ∀ a, a < 83 → ∀ b, b < 83 → a ≠ b → (TX9 a).2.1 ≠ (TX9 b).2.1 := by decide +kernel
theorem tyX9_ok : ∀ k, k < 83 → parseFieldDescriptor (TX9 k).2.2.1 = some (tyX9 k) := by decide +kernel
abbrev cX9_init : ByteArray := prog_11_method_2_code
def yX9_init : MethodName := ⟨RX9, "<init>", "()V"⟩
abbrev cX9_feed : ByteArray := prog_11_method_3_code
def yX9_feed : MethodName := ⟨RX9, "feed", "(IIIII)I"⟩
abbrev cX9_put : ByteArray := prog_11_method_4_code
def yX9_put : MethodName := ⟨RX9, "put", "(I)V"⟩
abbrev cX9_back : ByteArray := prog_11_method_5_code
def yX9_back : MethodName := ⟨RX9, "back", "(I)I"⟩
abbrev cX9_at : ByteArray := prog_11_method_6_code
def yX9_at : MethodName := ⟨RX9, "at", "(I)I"⟩
abbrev cX9_isDigit : ByteArray := prog_11_method_7_code
def yX9_isDigit : MethodName := ⟨RX9, "isDigit", "(I)Z"⟩
abbrev cX9_isLetter : ByteArray := prog_11_method_8_code
def yX9_isLetter : MethodName := ⟨RX9, "isLetter", "(I)Z"⟩
abbrev cX9_more : ByteArray := prog_11_method_9_code
def yX9_more : MethodName := ⟨RX9, "more", "(JI)J"⟩
abbrev cX9_word : ByteArray := prog_11_method_10_code
def yX9_word : MethodName := ⟨RX9, "word", "(IIIIIII)J"⟩
abbrev cX9_token : ByteArray := prog_11_method_11_code
def yX9_token : MethodName := ⟨RX9, "token", "(IIIJ)V"⟩
abbrev cX9_cut : ByteArray := prog_11_method_12_code
def yX9_cut : MethodName := ⟨RX9, "cut", "()V"⟩
abbrev cX9_sign : ByteArray := prog_11_method_13_code
def yX9_sign : MethodName := ⟨RX9, "sign", "(III)I"⟩
abbrev cX9_is : ByteArray := prog_11_method_14_code
def yX9_is : MethodName := ⟨RX9, "is", "(I)Z"⟩
abbrev cX9_fail : ByteArray := prog_11_method_15_code
def yX9_fail : MethodName := ⟨RX9, "fail", "(I)V"⟩
abbrev cX9_wrong : ByteArray := prog_11_method_16_code
def yX9_wrong : MethodName := ⟨RX9, "wrong", "(II)V"⟩
abbrev cX9_next : ByteArray := prog_11_method_17_code
def yX9_next : MethodName := ⟨RX9, "next", "()V"⟩
abbrev cX9_must : ByteArray := prog_11_method_18_code
def yX9_must : MethodName := ⟨RX9, "must", "(I)V"⟩
abbrev cX9_read : ByteArray := prog_11_method_19_code
def yX9_read : MethodName := ⟨RX9, "read", "(I)I"⟩
abbrev cX9_place : ByteArray := prog_11_method_20_code
def yX9_place : MethodName := ⟨RX9, "place", "()I"⟩
abbrev cX9_tellRule : ByteArray := prog_11_method_21_code
def yX9_tellRule : MethodName := ⟨RX9, "tellRule", "()V"⟩
abbrev cX9_relation : ByteArray := prog_11_method_22_code
def yX9_relation : MethodName := ⟨RX9, "relation", "(Z)V"⟩
abbrev cX9_emit : ByteArray := prog_11_method_23_code
def yX9_emit : MethodName := ⟨RX9, "emit", "(II)V"⟩
abbrev cX9_comesOut : ByteArray := prog_11_method_24_code
def yX9_comesOut : MethodName := ⟨RX9, "comesOut", "(Z)V"⟩
abbrev cX9_expression : ByteArray := prog_11_method_25_code
def yX9_expression : MethodName := ⟨RX9, "expression", "()V"⟩
abbrev cX9_isTick : ByteArray := prog_11_method_26_code
def yX9_isTick : MethodName := ⟨RX9, "isTick", "(I)Z"⟩
abbrev cX9_isMachine : ByteArray := prog_11_method_27_code
def yX9_isMachine : MethodName := ⟨RX9, "isMachine", "(I)Z"⟩
abbrev cX9_isFile : ByteArray := prog_11_method_28_code
def yX9_isFile : MethodName := ⟨RX9, "isFile", "(I)Z"⟩
abbrev cX9_machine : ByteArray := prog_11_method_29_code
def yX9_machine : MethodName := ⟨RX9, "machine", "(III)I"⟩
abbrev cX9_file : ByteArray := prog_11_method_30_code
def yX9_file : MethodName := ⟨RX9, "file", "(II)I"⟩
abbrev cX9_width : ByteArray := prog_11_method_31_code
def yX9_width : MethodName := ⟨RX9, "width", "(I)Z"⟩
abbrev cX9_wake : ByteArray := prog_11_method_32_code
def yX9_wake : MethodName := ⟨RX9, "wake", "(II)Z"⟩
abbrev cX9_fact : ByteArray := prog_11_method_33_code
def yX9_fact : MethodName := ⟨RX9, "fact", "()I"⟩
abbrev cX9_lose : ByteArray := prog_11_method_34_code
def yX9_lose : MethodName := ⟨RX9, "lose", "(II)I"⟩
abbrev cX9_spoil : ByteArray := prog_11_method_35_code
def yX9_spoil : MethodName := ⟨RX9, "spoil", "(III)I"⟩
abbrev cX9_down : ByteArray := prog_11_method_36_code
def yX9_down : MethodName := ⟨RX9, "down", "(III)I"⟩
abbrev cX9_cut_ : ByteArray := prog_11_method_37_code
def yX9_cut_ : MethodName := ⟨RX9, "cut", "(II)I"⟩
abbrev cX9_asks : ByteArray := prog_11_method_38_code
def yX9_asks : MethodName := ⟨RX9, "asks", "(IIIII)V"⟩
abbrev cX9_value : ByteArray := prog_11_method_39_code
def yX9_value : MethodName := ⟨RX9, "value", "(II)I"⟩
abbrev cX9_holds : ByteArray := prog_11_method_40_code
def yX9_holds : MethodName := ⟨RX9, "holds", "(II)Z"⟩
abbrev cX9_answers : ByteArray := prog_11_method_41_code
def yX9_answers : MethodName := ⟨RX9, "answers", "(I)I"⟩
abbrev cX9_goes : ByteArray := prog_11_method_42_code
def yX9_goes : MethodName := ⟨RX9, "goes", "()V"⟩
abbrev cX9_clears : ByteArray := prog_11_method_43_code
def yX9_clears : MethodName := ⟨RX9, "clears", "(I)V"⟩
abbrev cX9_powers : ByteArray := prog_11_method_44_code
def yX9_powers : MethodName := ⟨RX9, "powers", "(II)V"⟩
abbrev cX9_rescue : ByteArray := prog_11_method_45_code
def yX9_rescue : MethodName := ⟨RX9, "rescue", "(II)V"⟩
abbrev cX9_question : ByteArray := prog_11_method_46_code
def yX9_question : MethodName := ⟨RX9, "question", "(II)V"⟩
abbrev cX9_wants : ByteArray := prog_11_method_47_code
def yX9_wants : MethodName := ⟨RX9, "wants", "(II)Z"⟩
abbrev cX9_gives : ByteArray := prog_11_method_48_code
def yX9_gives : MethodName := ⟨RX9, "gives", "(I)V"⟩
abbrev cX9_gets : ByteArray := prog_11_method_49_code
def yX9_gets : MethodName := ⟨RX9, "gets", "(II)V"⟩
abbrev cX9_writes : ByteArray := prog_11_method_50_code
def yX9_writes : MethodName := ⟨RX9, "writes", "(I)V"⟩
abbrev cX9_keeps : ByteArray := prog_11_method_51_code
def yX9_keeps : MethodName := ⟨RX9, "keeps", "(II)V"⟩
abbrev cX9_answer : ByteArray := prog_11_method_52_code
def yX9_answer : MethodName := ⟨RX9, "answer", "(III)I"⟩
abbrev cX9_state : ByteArray := prog_11_method_53_code
def yX9_state : MethodName := ⟨RX9, "state", "(III)I"⟩
abbrev cX9_sends : ByteArray := prog_11_method_54_code
def yX9_sends : MethodName := ⟨RX9, "sends", "(I)I"⟩
abbrev cX9_sent : ByteArray := prog_11_method_55_code
def yX9_sent : MethodName := ⟨RX9, "sent", "(II)I"⟩
abbrev cX9_isDone : ByteArray := prog_11_method_56_code
def yX9_isDone : MethodName := ⟨RX9, "isDone", "(I)Z"⟩
abbrev cX9_ends : ByteArray := prog_11_method_57_code
def yX9_ends : MethodName := ⟨RX9, "ends", "()I"⟩
abbrev cX9_up : ByteArray := prog_11_method_58_code
def yX9_up : MethodName := ⟨RX9, "up", "()I"⟩
abbrev cX9_log : ByteArray := prog_11_method_59_code
def yX9_log : MethodName := ⟨RX9, "log", "(II)I"⟩
abbrev cX9_bits : ByteArray := prog_11_method_60_code
def yX9_bits : MethodName := ⟨RX9, "bits", "(I)I"⟩
abbrev cX9_plan : ByteArray := prog_11_method_61_code
def yX9_plan : MethodName := ⟨RX9, "plan", "(I)I"⟩
abbrev cX9_wakes : ByteArray := prog_11_method_62_code
def yX9_wakes : MethodName := ⟨RX9, "wakes", "(I)I"⟩
abbrev cX9_count : ByteArray := prog_11_method_63_code
def yX9_count : MethodName := ⟨RX9, "count", "(I)I"⟩
def RJ6 : String := "java/lang/Integer"
def TJ6 : u_T := fun k => match k with
  | _ => ("", "", "", false)
def tyJ6 : Nat → FieldType := fun k => match k with
  | _ => .int
theorem nmJ6 : ∀ a, a < 0 → ∀ b, b < 0 → a ≠ b → (TJ6 a).2.1 ≠ (TJ6 b).2.1 := by decide +kernel
theorem tyJ6_ok : ∀ k, k < 0 → parseFieldDescriptor (TJ6 k).2.2.1 = some (tyJ6 k) := by decide +kernel
abbrev cJ6_bitCount_0f7a4 : ByteArray := prog_12_method_49_code
def yJ6_bitCount_0f7a4 : MethodName := ⟨RJ6, "bitCount", "(I)I"⟩
def RJ9 : String := "java/lang/Math"
def TJ9 : u_T := fun k => match k with
  | _ => ("", "", "", false)
def tyJ9 : Nat → FieldType := fun k => match k with
  | _ => .int
theorem nmJ9 : ∀ a, a < 0 → ∀ b, b < 0 → a ≠ b → (TJ9 a).2.1 ≠ (TJ9 b).2.1 := by decide +kernel
theorem tyJ9_ok : ∀ k, k < 0 → parseFieldDescriptor (TJ9 k).2.2.1 = some (tyJ9 k) := by decide +kernel
abbrev cJ9_max_7cf53 : ByteArray := prog_13_method_65_code
def yJ9_max_7cf53 : MethodName := ⟨RJ9, "max", "(II)I"⟩
def RJ7 : String := "java/util/Arrays"
def TJ7 : u_T := fun k => match k with
  | _ => ("", "", "", false)
def tyJ7 : Nat → FieldType := fun k => match k with
  | _ => .int
theorem nmJ7 : ∀ a, a < 0 → ∀ b, b < 0 → a ≠ b → (TJ7 a).2.1 ≠ (TJ7 b).2.1 := by decide +kernel
theorem tyJ7_ok : ∀ k, k < 0 → parseFieldDescriptor (TJ7 k).2.2.1 = some (tyJ7 k) := by decide +kernel
abbrev cJ7_fill_53178 : ByteArray := prog_14_method_103_code
def yJ7_fill_53178 : MethodName := ⟨RJ7, "fill", "([II)V"⟩
def RL : String := "BootHallLaw"
abbrev cL_law : ByteArray := code
def yL_law : MethodName := ⟨RL, "law", "([I)Z"⟩
abbrev vwCl : List vw_C := [(RX0, TX0, 4), (RX1, TX1, 9), (RX2, TX2, 16), (RX3, TX3, 9), (RX4, TX4, 8), (RX5, TX5, 9), (RX6, TX6, 5), (RX7, TX7, 2), (RX8, TX8, 5), (RX9, TX9, 83)]
end
section
theorem dX0_init_0 : decode cX0_init 0 = .ok (.aload_n 0, 1) := by decide +kernel
theorem dX0_init_1 : decode cX0_init 1 = .ok (.invokespecial 3, 3) := by decide +kernel
theorem dX0_init_4 : decode cX0_init 4 = .ok (.aload_n 0, 1) := by decide +kernel
theorem dX0_init_5 : decode cX0_init 5 = .ok (.iconst (-1), 1) := by decide +kernel
theorem dX0_init_6 : decode cX0_init 6 = .ok (.putfield 9, 3) := by decide +kernel
theorem dX0_init_9 : decode cX0_init 9 = .ok (.aload_n 0, 1) := by decide +kernel
theorem dX0_init_10 : decode cX0_init 10 = .ok (.sipush 300, 3) := by decide +kernel
theorem dX0_init_13 : decode cX0_init 13 = .ok (.newarray .int, 2) := by decide +kernel
theorem dX0_init_15 : decode cX0_init 15 = .ok (.putfield 15, 3) := by decide +kernel
theorem dX0_init_18 : decode cX0_init 18 = .ok (.aload_n 0, 1) := by decide +kernel
theorem dX0_init_19 : decode cX0_init 19 = .ok (.sipush 600, 3) := by decide +kernel
theorem dX0_init_22 : decode cX0_init 22 = .ok (.newarray .long, 2) := by decide +kernel
theorem dX0_init_24 : decode cX0_init 24 = .ok (.putfield 19, 3) := by decide +kernel
theorem dX0_init_27 : decode cX0_init 27 = .ok (.return_, 1) := by decide +kernel
theorem dX0_isFull_0 : decode cX0_isFull 0 = .ok (.aload_n 0, 1) := by decide +kernel
theorem dX0_isFull_1 : decode cX0_isFull 1 = .ok (.getfield 23, 3) := by decide +kernel
theorem dX0_isFull_4 : decode cX0_isFull 4 = .ok (.sipush 200, 3) := by decide +kernel
theorem dX0_isFull_7 : decode cX0_isFull 7 = .ok (.if_icmp .lt 7, 3) := by decide +kernel
theorem dX0_isFull_10 : decode cX0_isFull 10 = .ok (.iconst 1, 1) := by decide +kernel
theorem dX0_isFull_11 : decode cX0_isFull 11 = .ok (.goto 4, 3) := by decide +kernel
theorem dX0_isFull_14 : decode cX0_isFull 14 = .ok (.iconst 0, 1) := by decide +kernel
theorem dX0_isFull_15 : decode cX0_isFull 15 = .ok (.ireturn, 1) := by decide +kernel
theorem dX0_addLost_0 : decode cX0_addLost 0 = .ok (.aload_n 0, 1) := by decide +kernel
theorem dX0_addLost_1 : decode cX0_addLost 1 = .ok (.getfield 15, 3) := by decide +kernel
theorem dX0_addLost_4 : decode cX0_addLost 4 = .ok (.iload_n 2, 1) := by decide +kernel
theorem dX0_addLost_5 : decode cX0_addLost 5 = .ok (.dup2, 1) := by decide +kernel
theorem dX0_addLost_6 : decode cX0_addLost 6 = .ok (.iaload, 1) := by decide +kernel
theorem dX0_addLost_7 : decode cX0_addLost 7 = .ok (.iconst 1, 1) := by decide +kernel
theorem dX0_addLost_8 : decode cX0_addLost 8 = .ok (.iload_n 1, 1) := by decide +kernel
theorem dX0_addLost_9 : decode cX0_addLost 9 = .ok (.ishl, 1) := by decide +kernel
theorem dX0_addLost_10 : decode cX0_addLost 10 = .ok (.ior, 1) := by decide +kernel
theorem dX0_addLost_11 : decode cX0_addLost 11 = .ok (.iastore, 1) := by decide +kernel
theorem dX0_addLost_12 : decode cX0_addLost 12 = .ok (.aload_n 0, 1) := by decide +kernel
theorem dX0_addLost_13 : decode cX0_addLost 13 = .ok (.dup, 1) := by decide +kernel
theorem dX0_addLost_14 : decode cX0_addLost 14 = .ok (.getfield 23, 3) := by decide +kernel
theorem dX0_addLost_17 : decode cX0_addLost 17 = .ok (.dup_x1, 1) := by decide +kernel
theorem dX0_addLost_18 : decode cX0_addLost 18 = .ok (.iconst 1, 1) := by decide +kernel
theorem dX0_addLost_19 : decode cX0_addLost 19 = .ok (.iadd, 1) := by decide +kernel
theorem dX0_addLost_20 : decode cX0_addLost 20 = .ok (.putfield 23, 3) := by decide +kernel
theorem dX0_addLost_23 : decode cX0_addLost 23 = .ok (.ireturn, 1) := by decide +kernel
theorem dX0_addCut_0 : decode cX0_addCut 0 = .ok (.aload_n 0, 1) := by decide +kernel
theorem dX0_addCut_1 : decode cX0_addCut 1 = .ok (.getfield 15, 3) := by decide +kernel
theorem dX0_addCut_4 : decode cX0_addCut 4 = .ok (.iload_n 2, 1) := by decide +kernel
theorem dX0_addCut_5 : decode cX0_addCut 5 = .ok (.dup2, 1) := by decide +kernel
theorem dX0_addCut_6 : decode cX0_addCut 6 = .ok (.iaload, 1) := by decide +kernel
theorem dX0_addCut_7 : decode cX0_addCut 7 = .ok (.iconst 1, 1) := by decide +kernel
theorem dX0_addCut_8 : decode cX0_addCut 8 = .ok (.bipush 8, 2) := by decide +kernel
theorem dX0_addCut_10 : decode cX0_addCut 10 = .ok (.iload_n 1, 1) := by decide +kernel
theorem dX0_addCut_11 : decode cX0_addCut 11 = .ok (.iadd, 1) := by decide +kernel
theorem dX0_addCut_12 : decode cX0_addCut 12 = .ok (.ishl, 1) := by decide +kernel
theorem dX0_addCut_13 : decode cX0_addCut 13 = .ok (.ior, 1) := by decide +kernel
theorem dX0_addCut_14 : decode cX0_addCut 14 = .ok (.iastore, 1) := by decide +kernel
theorem dX0_addCut_15 : decode cX0_addCut 15 = .ok (.aload_n 0, 1) := by decide +kernel
theorem dX0_addCut_16 : decode cX0_addCut 16 = .ok (.aload_n 0, 1) := by decide +kernel
theorem dX0_addCut_17 : decode cX0_addCut 17 = .ok (.getfield 9, 3) := by decide +kernel
theorem dX0_addCut_20 : decode cX0_addCut 20 = .ok (.iload_n 2, 1) := by decide +kernel
theorem dX0_addCut_21 : decode cX0_addCut 21 = .ok (.invokestatic 26, 3) := by decide +kernel
theorem dX0_addCut_24 : decode cX0_addCut 24 = .ok (.putfield 9, 3) := by decide +kernel
theorem dX0_addCut_27 : decode cX0_addCut 27 = .ok (.aload_n 0, 1) := by decide +kernel
theorem dX0_addCut_28 : decode cX0_addCut 28 = .ok (.dup, 1) := by decide +kernel
theorem dX0_addCut_29 : decode cX0_addCut 29 = .ok (.getfield 23, 3) := by decide +kernel
theorem dX0_addCut_32 : decode cX0_addCut 32 = .ok (.dup_x1, 1) := by decide +kernel
theorem dX0_addCut_33 : decode cX0_addCut 33 = .ok (.iconst 1, 1) := by decide +kernel
theorem dX0_addCut_34 : decode cX0_addCut 34 = .ok (.iadd, 1) := by decide +kernel
theorem dX0_addCut_35 : decode cX0_addCut 35 = .ok (.putfield 23, 3) := by decide +kernel
theorem dX0_addCut_38 : decode cX0_addCut 38 = .ok (.ireturn, 1) := by decide +kernel
theorem dX0_addDown_0 : decode cX0_addDown 0 = .ok (.iload_n 2, 1) := by decide +kernel
theorem dX0_addDown_1 : decode cX0_addDown 1 = .ok (.istore 4, 2) := by decide +kernel
theorem dX0_addDown_3 : decode cX0_addDown 3 = .ok (.iload 4, 2) := by decide +kernel
theorem dX0_addDown_5 : decode cX0_addDown 5 = .ok (.iload_n 3, 1) := by decide +kernel
theorem dX0_addDown_6 : decode cX0_addDown 6 = .ok (.if_icmp .ge 25, 3) := by decide +kernel
theorem dX0_addDown_9 : decode cX0_addDown 9 = .ok (.aload_n 0, 1) := by decide +kernel
theorem dX0_addDown_10 : decode cX0_addDown 10 = .ok (.getfield 15, 3) := by decide +kernel
theorem dX0_addDown_13 : decode cX0_addDown 13 = .ok (.iload 4, 2) := by decide +kernel
theorem dX0_addDown_15 : decode cX0_addDown 15 = .ok (.dup2, 1) := by decide +kernel
theorem dX0_addDown_16 : decode cX0_addDown 16 = .ok (.iaload, 1) := by decide +kernel
theorem dX0_addDown_17 : decode cX0_addDown 17 = .ok (.iconst 1, 1) := by decide +kernel
theorem dX0_addDown_18 : decode cX0_addDown 18 = .ok (.bipush 16, 2) := by decide +kernel
theorem dX0_addDown_20 : decode cX0_addDown 20 = .ok (.iload_n 1, 1) := by decide +kernel
theorem dX0_addDown_21 : decode cX0_addDown 21 = .ok (.iadd, 1) := by decide +kernel
theorem dX0_addDown_22 : decode cX0_addDown 22 = .ok (.ishl, 1) := by decide +kernel
theorem dX0_addDown_23 : decode cX0_addDown 23 = .ok (.ior, 1) := by decide +kernel
theorem dX0_addDown_24 : decode cX0_addDown 24 = .ok (.iastore, 1) := by decide +kernel
theorem dX0_addDown_25 : decode cX0_addDown 25 = .ok (.iinc 4 1, 3) := by decide +kernel
theorem dX0_addDown_28 : decode cX0_addDown 28 = .ok (.goto (-25), 3) := by decide +kernel
theorem dX0_addDown_31 : decode cX0_addDown 31 = .ok (.aload_n 0, 1) := by decide +kernel
theorem dX0_addDown_32 : decode cX0_addDown 32 = .ok (.dup, 1) := by decide +kernel
theorem dX0_addDown_33 : decode cX0_addDown 33 = .ok (.getfield 23, 3) := by decide +kernel
theorem dX0_addDown_36 : decode cX0_addDown 36 = .ok (.dup_x1, 1) := by decide +kernel
theorem dX0_addDown_37 : decode cX0_addDown 37 = .ok (.iconst 1, 1) := by decide +kernel
theorem dX0_addDown_38 : decode cX0_addDown 38 = .ok (.iadd, 1) := by decide +kernel
theorem dX0_addDown_39 : decode cX0_addDown 39 = .ok (.putfield 23, 3) := by decide +kernel
theorem dX0_addDown_42 : decode cX0_addDown 42 = .ok (.ireturn, 1) := by decide +kernel
theorem dX0_addWrong_0 : decode cX0_addWrong 0 = .ok (.aload_n 0, 1) := by decide +kernel
theorem dX0_addWrong_1 : decode cX0_addWrong 1 = .ok (.getfield 19, 3) := by decide +kernel
theorem dX0_addWrong_4 : decode cX0_addWrong 4 = .ok (.iconst 2, 1) := by decide +kernel
theorem dX0_addWrong_5 : decode cX0_addWrong 5 = .ok (.iload_n 2, 1) := by decide +kernel
theorem dX0_addWrong_6 : decode cX0_addWrong 6 = .ok (.imul, 1) := by decide +kernel
theorem dX0_addWrong_7 : decode cX0_addWrong 7 = .ok (.iload_n 1, 1) := by decide +kernel
theorem dX0_addWrong_8 : decode cX0_addWrong 8 = .ok (.bipush 36, 2) := by decide +kernel
theorem dX0_addWrong_10 : decode cX0_addWrong 10 = .ok (.idiv, 1) := by decide +kernel
theorem dX0_addWrong_11 : decode cX0_addWrong 11 = .ok (.iadd, 1) := by decide +kernel
theorem dX0_addWrong_12 : decode cX0_addWrong 12 = .ok (.dup2, 1) := by decide +kernel
theorem dX0_addWrong_13 : decode cX0_addWrong 13 = .ok (.laload, 1) := by decide +kernel
theorem dX0_addWrong_14 : decode cX0_addWrong 14 = .ok (.lconst 1, 1) := by decide +kernel
theorem dX0_addWrong_15 : decode cX0_addWrong 15 = .ok (.iload_n 1, 1) := by decide +kernel
theorem dX0_addWrong_16 : decode cX0_addWrong 16 = .ok (.bipush 36, 2) := by decide +kernel
theorem dX0_addWrong_18 : decode cX0_addWrong 18 = .ok (.irem, 1) := by decide +kernel
theorem dX0_addWrong_19 : decode cX0_addWrong 19 = .ok (.lshl, 1) := by decide +kernel
theorem dX0_addWrong_20 : decode cX0_addWrong 20 = .ok (.lor, 1) := by decide +kernel
theorem dX0_addWrong_21 : decode cX0_addWrong 21 = .ok (.lastore, 1) := by decide +kernel
theorem dX0_addWrong_22 : decode cX0_addWrong 22 = .ok (.aload_n 0, 1) := by decide +kernel
theorem dX0_addWrong_23 : decode cX0_addWrong 23 = .ok (.dup, 1) := by decide +kernel
theorem dX0_addWrong_24 : decode cX0_addWrong 24 = .ok (.getfield 23, 3) := by decide +kernel
theorem dX0_addWrong_27 : decode cX0_addWrong 27 = .ok (.dup_x1, 1) := by decide +kernel
theorem dX0_addWrong_28 : decode cX0_addWrong 28 = .ok (.iconst 1, 1) := by decide +kernel
theorem dX0_addWrong_29 : decode cX0_addWrong 29 = .ok (.iadd, 1) := by decide +kernel
theorem dX0_addWrong_30 : decode cX0_addWrong 30 = .ok (.putfield 23, 3) := by decide +kernel
theorem dX0_addWrong_33 : decode cX0_addWrong 33 = .ok (.ireturn, 1) := by decide +kernel
theorem dX0_isLost_0 : decode cX0_isLost 0 = .ok (.aload_n 0, 1) := by decide +kernel
theorem dX0_isLost_1 : decode cX0_isLost 1 = .ok (.getfield 15, 3) := by decide +kernel
theorem dX0_isLost_4 : decode cX0_isLost 4 = .ok (.iload_n 2, 1) := by decide +kernel
theorem dX0_isLost_5 : decode cX0_isLost 5 = .ok (.iaload, 1) := by decide +kernel
theorem dX0_isLost_6 : decode cX0_isLost 6 = .ok (.iload_n 1, 1) := by decide +kernel
theorem dX0_isLost_7 : decode cX0_isLost 7 = .ok (.iushr, 1) := by decide +kernel
theorem dX0_isLost_8 : decode cX0_isLost 8 = .ok (.iconst 1, 1) := by decide +kernel
theorem dX0_isLost_9 : decode cX0_isLost 9 = .ok (.iand, 1) := by decide +kernel
theorem dX0_isLost_10 : decode cX0_isLost 10 = .ok (.ifCond .eq 7, 3) := by decide +kernel
theorem dX0_isLost_13 : decode cX0_isLost 13 = .ok (.iconst 1, 1) := by decide +kernel
theorem dX0_isLost_14 : decode cX0_isLost 14 = .ok (.goto 4, 3) := by decide +kernel
theorem dX0_isLost_17 : decode cX0_isLost 17 = .ok (.iconst 0, 1) := by decide +kernel
theorem dX0_isLost_18 : decode cX0_isLost 18 = .ok (.ireturn, 1) := by decide +kernel
theorem dX0_isCut_0 : decode cX0_isCut 0 = .ok (.aload_n 0, 1) := by decide +kernel
theorem dX0_isCut_1 : decode cX0_isCut 1 = .ok (.getfield 15, 3) := by decide +kernel
theorem dX0_isCut_4 : decode cX0_isCut 4 = .ok (.iload_n 2, 1) := by decide +kernel
theorem dX0_isCut_5 : decode cX0_isCut 5 = .ok (.iaload, 1) := by decide +kernel
theorem dX0_isCut_6 : decode cX0_isCut 6 = .ok (.bipush 8, 2) := by decide +kernel
theorem dX0_isCut_8 : decode cX0_isCut 8 = .ok (.iload_n 1, 1) := by decide +kernel
theorem dX0_isCut_9 : decode cX0_isCut 9 = .ok (.iadd, 1) := by decide +kernel
theorem dX0_isCut_10 : decode cX0_isCut 10 = .ok (.iushr, 1) := by decide +kernel
theorem dX0_isCut_11 : decode cX0_isCut 11 = .ok (.iconst 1, 1) := by decide +kernel
theorem dX0_isCut_12 : decode cX0_isCut 12 = .ok (.iand, 1) := by decide +kernel
theorem dX0_isCut_13 : decode cX0_isCut 13 = .ok (.ifCond .eq 7, 3) := by decide +kernel
theorem dX0_isCut_16 : decode cX0_isCut 16 = .ok (.iconst 1, 1) := by decide +kernel
theorem dX0_isCut_17 : decode cX0_isCut 17 = .ok (.goto 4, 3) := by decide +kernel
theorem dX0_isCut_20 : decode cX0_isCut 20 = .ok (.iconst 0, 1) := by decide +kernel
theorem dX0_isCut_21 : decode cX0_isCut 21 = .ok (.ireturn, 1) := by decide +kernel
theorem dX0_isDown_0 : decode cX0_isDown 0 = .ok (.aload_n 0, 1) := by decide +kernel
theorem dX0_isDown_1 : decode cX0_isDown 1 = .ok (.getfield 15, 3) := by decide +kernel
theorem dX0_isDown_4 : decode cX0_isDown 4 = .ok (.iload_n 2, 1) := by decide +kernel
theorem dX0_isDown_5 : decode cX0_isDown 5 = .ok (.iaload, 1) := by decide +kernel
theorem dX0_isDown_6 : decode cX0_isDown 6 = .ok (.bipush 16, 2) := by decide +kernel
theorem dX0_isDown_8 : decode cX0_isDown 8 = .ok (.iload_n 1, 1) := by decide +kernel
theorem dX0_isDown_9 : decode cX0_isDown 9 = .ok (.iadd, 1) := by decide +kernel
theorem dX0_isDown_10 : decode cX0_isDown 10 = .ok (.iushr, 1) := by decide +kernel
theorem dX0_isDown_11 : decode cX0_isDown 11 = .ok (.iconst 1, 1) := by decide +kernel
theorem dX0_isDown_12 : decode cX0_isDown 12 = .ok (.iand, 1) := by decide +kernel
theorem dX0_isDown_13 : decode cX0_isDown 13 = .ok (.ifCond .eq 7, 3) := by decide +kernel
theorem dX0_isDown_16 : decode cX0_isDown 16 = .ok (.iconst 1, 1) := by decide +kernel
theorem dX0_isDown_17 : decode cX0_isDown 17 = .ok (.goto 4, 3) := by decide +kernel
theorem dX0_isDown_20 : decode cX0_isDown 20 = .ok (.iconst 0, 1) := by decide +kernel
theorem dX0_isDown_21 : decode cX0_isDown 21 = .ok (.ireturn, 1) := by decide +kernel
theorem dX0_isWrong_0 : decode cX0_isWrong 0 = .ok (.aload_n 0, 1) := by decide +kernel
theorem dX0_isWrong_1 : decode cX0_isWrong 1 = .ok (.getfield 19, 3) := by decide +kernel
theorem dX0_isWrong_4 : decode cX0_isWrong 4 = .ok (.iconst 2, 1) := by decide +kernel
theorem dX0_isWrong_5 : decode cX0_isWrong 5 = .ok (.iload_n 2, 1) := by decide +kernel
theorem dX0_isWrong_6 : decode cX0_isWrong 6 = .ok (.imul, 1) := by decide +kernel
theorem dX0_isWrong_7 : decode cX0_isWrong 7 = .ok (.iload_n 1, 1) := by decide +kernel
theorem dX0_isWrong_8 : decode cX0_isWrong 8 = .ok (.bipush 36, 2) := by decide +kernel
theorem dX0_isWrong_10 : decode cX0_isWrong 10 = .ok (.idiv, 1) := by decide +kernel
theorem dX0_isWrong_11 : decode cX0_isWrong 11 = .ok (.iadd, 1) := by decide +kernel
theorem dX0_isWrong_12 : decode cX0_isWrong 12 = .ok (.laload, 1) := by decide +kernel
theorem dX0_isWrong_13 : decode cX0_isWrong 13 = .ok (.iload_n 1, 1) := by decide +kernel
theorem dX0_isWrong_14 : decode cX0_isWrong 14 = .ok (.bipush 36, 2) := by decide +kernel
theorem dX0_isWrong_16 : decode cX0_isWrong 16 = .ok (.irem, 1) := by decide +kernel
theorem dX0_isWrong_17 : decode cX0_isWrong 17 = .ok (.lushr, 1) := by decide +kernel
theorem dX0_isWrong_18 : decode cX0_isWrong 18 = .ok (.lconst 1, 1) := by decide +kernel
theorem dX0_isWrong_19 : decode cX0_isWrong 19 = .ok (.land, 1) := by decide +kernel
theorem dX0_isWrong_20 : decode cX0_isWrong 20 = .ok (.lconst 0, 1) := by decide +kernel
theorem dX0_isWrong_21 : decode cX0_isWrong 21 = .ok (.lcmp, 1) := by decide +kernel
theorem dX0_isWrong_22 : decode cX0_isWrong 22 = .ok (.ifCond .eq 7, 3) := by decide +kernel
theorem dX0_isWrong_25 : decode cX0_isWrong 25 = .ok (.iconst 1, 1) := by decide +kernel
theorem dX0_isWrong_26 : decode cX0_isWrong 26 = .ok (.goto 4, 3) := by decide +kernel
theorem dX0_isWrong_29 : decode cX0_isWrong 29 = .ok (.iconst 0, 1) := by decide +kernel
theorem dX0_isWrong_30 : decode cX0_isWrong 30 = .ok (.ireturn, 1) := by decide +kernel
theorem dX1_init_0 : decode cX1_init 0 = .ok (.aload_n 0, 1) := by decide +kernel
theorem dX1_init_1 : decode cX1_init 1 = .ok (.invokespecial 3, 3) := by decide +kernel
theorem dX1_init_4 : decode cX1_init 4 = .ok (.aload_n 0, 1) := by decide +kernel
theorem dX1_init_5 : decode cX1_init 5 = .ok (.bipush 8, 2) := by decide +kernel
theorem dX1_init_7 : decode cX1_init 7 = .ok (.anewarray 9, 3) := by decide +kernel
theorem dX1_init_10 : decode cX1_init 10 = .ok (.putfield 11, 3) := by decide +kernel
theorem dX1_init_13 : decode cX1_init 13 = .ok (.aload_n 0, 1) := by decide +kernel
theorem dX1_init_14 : decode cX1_init 14 = .ok (.bipush 6, 2) := by decide +kernel
theorem dX1_init_16 : decode cX1_init 16 = .ok (.newarray .int, 2) := by decide +kernel
theorem dX1_init_18 : decode cX1_init 18 = .ok (.putfield 17, 3) := by decide +kernel
theorem dX1_init_21 : decode cX1_init 21 = .ok (.aload_n 0, 1) := by decide +kernel
theorem dX1_init_22 : decode cX1_init 22 = .ok (.bipush 6, 2) := by decide +kernel
theorem dX1_init_24 : decode cX1_init 24 = .ok (.newarray .int, 2) := by decide +kernel
theorem dX1_init_26 : decode cX1_init 26 = .ok (.putfield 21, 3) := by decide +kernel
theorem dX1_init_29 : decode cX1_init 29 = .ok (.aload_n 0, 1) := by decide +kernel
theorem dX1_init_30 : decode cX1_init 30 = .ok (.iconst 2, 1) := by decide +kernel
theorem dX1_init_31 : decode cX1_init 31 = .ok (.putfield 24, 3) := by decide +kernel
theorem dX1_init_34 : decode cX1_init 34 = .ok (.aload_n 0, 1) := by decide +kernel
theorem dX1_init_35 : decode cX1_init 35 = .ok (.iconst 4, 1) := by decide +kernel
theorem dX1_init_36 : decode cX1_init 36 = .ok (.newarray .int, 2) := by decide +kernel
theorem dX1_init_38 : decode cX1_init 38 = .ok (.putfield 28, 3) := by decide +kernel
theorem dX1_init_41 : decode cX1_init 41 = .ok (.aload_n 0, 1) := by decide +kernel
theorem dX1_init_42 : decode cX1_init 42 = .ok (.new 31, 3) := by decide +kernel
theorem dX1_init_45 : decode cX1_init 45 = .ok (.dup, 1) := by decide +kernel
theorem dX1_init_46 : decode cX1_init 46 = .ok (.invokespecial 33, 3) := by decide +kernel
theorem dX1_init_49 : decode cX1_init 49 = .ok (.putfield 34, 3) := by decide +kernel
theorem dX1_init_52 : decode cX1_init 52 = .ok (.aload_n 0, 1) := by decide +kernel
theorem dX1_init_53 : decode cX1_init 53 = .ok (.iconst 2, 1) := by decide +kernel
theorem dX1_init_54 : decode cX1_init 54 = .ok (.anewarray 38, 3) := by decide +kernel
theorem dX1_init_57 : decode cX1_init 57 = .ok (.putfield 40, 3) := by decide +kernel
theorem dX1_init_60 : decode cX1_init 60 = .ok (.iconst 0, 1) := by decide +kernel
theorem dX1_init_61 : decode cX1_init 61 = .ok (.istore_n 1, 1) := by decide +kernel
theorem dX1_init_62 : decode cX1_init 62 = .ok (.iload_n 1, 1) := by decide +kernel
theorem dX1_init_63 : decode cX1_init 63 = .ok (.bipush 8, 2) := by decide +kernel
theorem dX1_init_65 : decode cX1_init 65 = .ok (.if_icmp .ge 22, 3) := by decide +kernel
theorem dX1_init_68 : decode cX1_init 68 = .ok (.aload_n 0, 1) := by decide +kernel
theorem dX1_init_69 : decode cX1_init 69 = .ok (.getfield 11, 3) := by decide +kernel
theorem dX1_init_72 : decode cX1_init 72 = .ok (.iload_n 1, 1) := by decide +kernel
theorem dX1_init_73 : decode cX1_init 73 = .ok (.new 9, 3) := by decide +kernel
theorem dX1_init_76 : decode cX1_init 76 = .ok (.dup, 1) := by decide +kernel
theorem dX1_init_77 : decode cX1_init 77 = .ok (.invokespecial 44, 3) := by decide +kernel
theorem dX1_init_80 : decode cX1_init 80 = .ok (.aastore, 1) := by decide +kernel
theorem dX1_init_81 : decode cX1_init 81 = .ok (.iinc 1 1, 3) := by decide +kernel
theorem dX1_init_84 : decode cX1_init 84 = .ok (.goto (-22), 3) := by decide +kernel
theorem dX1_init_87 : decode cX1_init 87 = .ok (.iconst 0, 1) := by decide +kernel
theorem dX1_init_88 : decode cX1_init 88 = .ok (.istore_n 1, 1) := by decide +kernel
theorem dX1_init_89 : decode cX1_init 89 = .ok (.iload_n 1, 1) := by decide +kernel
theorem dX1_init_90 : decode cX1_init 90 = .ok (.iconst 2, 1) := by decide +kernel
theorem dX1_init_91 : decode cX1_init 91 = .ok (.if_icmp .ge 22, 3) := by decide +kernel
theorem dX1_init_94 : decode cX1_init 94 = .ok (.aload_n 0, 1) := by decide +kernel
theorem dX1_init_95 : decode cX1_init 95 = .ok (.getfield 40, 3) := by decide +kernel
theorem dX1_init_98 : decode cX1_init 98 = .ok (.iload_n 1, 1) := by decide +kernel
theorem dX1_init_99 : decode cX1_init 99 = .ok (.new 38, 3) := by decide +kernel
theorem dX1_init_102 : decode cX1_init 102 = .ok (.dup, 1) := by decide +kernel
theorem dX1_init_103 : decode cX1_init 103 = .ok (.invokespecial 45, 3) := by decide +kernel
theorem dX1_init_106 : decode cX1_init 106 = .ok (.aastore, 1) := by decide +kernel
theorem dX1_init_107 : decode cX1_init 107 = .ok (.iinc 1 1, 3) := by decide +kernel
theorem dX1_init_110 : decode cX1_init 110 = .ok (.goto (-21), 3) := by decide +kernel
theorem dX1_init_113 : decode cX1_init 113 = .ok (.return_, 1) := by decide +kernel
theorem dX1_addMachine_0 : decode cX1_addMachine 0 = .ok (.aload_n 0, 1) := by decide +kernel
theorem dX1_addMachine_1 : decode cX1_addMachine 1 = .ok (.getfield 11, 3) := by decide +kernel
theorem dX1_addMachine_4 : decode cX1_addMachine 4 = .ok (.aload_n 0, 1) := by decide +kernel
theorem dX1_addMachine_5 : decode cX1_addMachine 5 = .ok (.getfield 46, 3) := by decide +kernel
theorem dX1_addMachine_8 : decode cX1_addMachine 8 = .ok (.aaload, 1) := by decide +kernel
theorem dX1_addMachine_9 : decode cX1_addMachine 9 = .ok (.astore 4, 2) := by decide +kernel
theorem dX1_addMachine_11 : decode cX1_addMachine 11 = .ok (.aload 4, 2) := by decide +kernel
theorem dX1_addMachine_13 : decode cX1_addMachine 13 = .ok (.iload_n 1, 1) := by decide +kernel
theorem dX1_addMachine_14 : decode cX1_addMachine 14 = .ok (.putfield 49, 3) := by decide +kernel
theorem dX1_addMachine_17 : decode cX1_addMachine 17 = .ok (.aload 4, 2) := by decide +kernel
theorem dX1_addMachine_19 : decode cX1_addMachine 19 = .ok (.iload_n 2, 1) := by decide +kernel
theorem dX1_addMachine_20 : decode cX1_addMachine 20 = .ok (.putfield 52, 3) := by decide +kernel
theorem dX1_addMachine_23 : decode cX1_addMachine 23 = .ok (.aload 4, 2) := by decide +kernel
theorem dX1_addMachine_25 : decode cX1_addMachine 25 = .ok (.iload_n 3, 1) := by decide +kernel
theorem dX1_addMachine_26 : decode cX1_addMachine 26 = .ok (.putfield 55, 3) := by decide +kernel
theorem dX1_addMachine_29 : decode cX1_addMachine 29 = .ok (.aload_n 0, 1) := by decide +kernel
theorem dX1_addMachine_30 : decode cX1_addMachine 30 = .ok (.dup, 1) := by decide +kernel
theorem dX1_addMachine_31 : decode cX1_addMachine 31 = .ok (.getfield 46, 3) := by decide +kernel
theorem dX1_addMachine_34 : decode cX1_addMachine 34 = .ok (.dup_x1, 1) := by decide +kernel
theorem dX1_addMachine_35 : decode cX1_addMachine 35 = .ok (.iconst 1, 1) := by decide +kernel
theorem dX1_addMachine_36 : decode cX1_addMachine 36 = .ok (.iadd, 1) := by decide +kernel
theorem dX1_addMachine_37 : decode cX1_addMachine 37 = .ok (.putfield 46, 3) := by decide +kernel
theorem dX1_addMachine_40 : decode cX1_addMachine 40 = .ok (.ireturn, 1) := by decide +kernel
theorem dX1_addFile_0 : decode cX1_addFile 0 = .ok (.aload_n 0, 1) := by decide +kernel
theorem dX1_addFile_1 : decode cX1_addFile 1 = .ok (.getfield 17, 3) := by decide +kernel
theorem dX1_addFile_4 : decode cX1_addFile 4 = .ok (.aload_n 0, 1) := by decide +kernel
theorem dX1_addFile_5 : decode cX1_addFile 5 = .ok (.getfield 58, 3) := by decide +kernel
theorem dX1_addFile_8 : decode cX1_addFile 8 = .ok (.iload_n 1, 1) := by decide +kernel
theorem dX1_addFile_9 : decode cX1_addFile 9 = .ok (.iastore, 1) := by decide +kernel
theorem dX1_addFile_10 : decode cX1_addFile 10 = .ok (.aload_n 0, 1) := by decide +kernel
theorem dX1_addFile_11 : decode cX1_addFile 11 = .ok (.getfield 21, 3) := by decide +kernel
theorem dX1_addFile_14 : decode cX1_addFile 14 = .ok (.aload_n 0, 1) := by decide +kernel
theorem dX1_addFile_15 : decode cX1_addFile 15 = .ok (.getfield 58, 3) := by decide +kernel
theorem dX1_addFile_18 : decode cX1_addFile 18 = .ok (.iload_n 2, 1) := by decide +kernel
theorem dX1_addFile_19 : decode cX1_addFile 19 = .ok (.iastore, 1) := by decide +kernel
theorem dX1_addFile_20 : decode cX1_addFile 20 = .ok (.aload_n 0, 1) := by decide +kernel
theorem dX1_addFile_21 : decode cX1_addFile 21 = .ok (.dup, 1) := by decide +kernel
theorem dX1_addFile_22 : decode cX1_addFile 22 = .ok (.getfield 58, 3) := by decide +kernel
theorem dX1_addFile_25 : decode cX1_addFile 25 = .ok (.dup_x1, 1) := by decide +kernel
theorem dX1_addFile_26 : decode cX1_addFile 26 = .ok (.iconst 1, 1) := by decide +kernel
theorem dX1_addFile_27 : decode cX1_addFile 27 = .ok (.iadd, 1) := by decide +kernel
theorem dX1_addFile_28 : decode cX1_addFile 28 = .ok (.putfield 58, 3) := by decide +kernel
theorem dX1_addFile_31 : decode cX1_addFile 31 = .ok (.ireturn, 1) := by decide +kernel
theorem dX1_hasBlock_0 : decode cX1_hasBlock 0 = .ok (.iload_n 1, 1) := by decide +kernel
theorem dX1_hasBlock_1 : decode cX1_hasBlock 1 = .ok (.aload_n 0, 1) := by decide +kernel
theorem dX1_hasBlock_2 : decode cX1_hasBlock 2 = .ok (.getfield 58, 3) := by decide +kernel
theorem dX1_hasBlock_5 : decode cX1_hasBlock 5 = .ok (.invokestatic 61, 3) := by decide +kernel
theorem dX1_hasBlock_8 : decode cX1_hasBlock 8 = .ok (.ifCond .eq 20, 3) := by decide +kernel
theorem dX1_hasBlock_11 : decode cX1_hasBlock 11 = .ok (.iload_n 2, 1) := by decide +kernel
theorem dX1_hasBlock_12 : decode cX1_hasBlock 12 = .ok (.aload_n 0, 1) := by decide +kernel
theorem dX1_hasBlock_13 : decode cX1_hasBlock 13 = .ok (.getfield 17, 3) := by decide +kernel
theorem dX1_hasBlock_16 : decode cX1_hasBlock 16 = .ok (.iload_n 1, 1) := by decide +kernel
theorem dX1_hasBlock_17 : decode cX1_hasBlock 17 = .ok (.iaload, 1) := by decide +kernel
theorem dX1_hasBlock_18 : decode cX1_hasBlock 18 = .ok (.invokestatic 61, 3) := by decide +kernel
theorem dX1_hasBlock_21 : decode cX1_hasBlock 21 = .ok (.ifCond .eq 7, 3) := by decide +kernel
theorem dX1_hasBlock_24 : decode cX1_hasBlock 24 = .ok (.iconst 1, 1) := by decide +kernel
theorem dX1_hasBlock_25 : decode cX1_hasBlock 25 = .ok (.goto 4, 3) := by decide +kernel
theorem dX1_hasBlock_28 : decode cX1_hasBlock 28 = .ok (.iconst 0, 1) := by decide +kernel
theorem dX1_hasBlock_29 : decode cX1_hasBlock 29 = .ok (.ireturn, 1) := by decide +kernel
theorem dX1_setWakes_0 : decode cX1_setWakes 0 = .ok (.iconst 0, 1) := by decide +kernel
theorem dX1_setWakes_1 : decode cX1_setWakes 1 = .ok (.istore_n 3, 1) := by decide +kernel
theorem dX1_setWakes_2 : decode cX1_setWakes 2 = .ok (.iload_n 3, 1) := by decide +kernel
theorem dX1_setWakes_3 : decode cX1_setWakes 3 = .ok (.iconst 4, 1) := by decide +kernel
theorem dX1_setWakes_4 : decode cX1_setWakes 4 = .ok (.if_icmp .ge 45, 3) := by decide +kernel
theorem dX1_setWakes_7 : decode cX1_setWakes 7 = .ok (.iload_n 1, 1) := by decide +kernel
theorem dX1_setWakes_8 : decode cX1_setWakes 8 = .ok (.iconst 2, 1) := by decide +kernel
theorem dX1_setWakes_9 : decode cX1_setWakes 9 = .ok (.iconst 3, 1) := by decide +kernel
theorem dX1_setWakes_10 : decode cX1_setWakes 10 = .ok (.iload_n 3, 1) := by decide +kernel
theorem dX1_setWakes_11 : decode cX1_setWakes 11 = .ok (.isub, 1) := by decide +kernel
theorem dX1_setWakes_12 : decode cX1_setWakes 12 = .ok (.imul, 1) := by decide +kernel
theorem dX1_setWakes_13 : decode cX1_setWakes 13 = .ok (.iushr, 1) := by decide +kernel
theorem dX1_setWakes_14 : decode cX1_setWakes 14 = .ok (.iconst 3, 1) := by decide +kernel
theorem dX1_setWakes_15 : decode cX1_setWakes 15 = .ok (.iand, 1) := by decide +kernel
theorem dX1_setWakes_16 : decode cX1_setWakes 16 = .ok (.istore 4, 2) := by decide +kernel
theorem dX1_setWakes_18 : decode cX1_setWakes 18 = .ok (.iload 4, 2) := by decide +kernel
theorem dX1_setWakes_20 : decode cX1_setWakes 20 = .ok (.ifCond .eq 13, 3) := by decide +kernel
theorem dX1_setWakes_23 : decode cX1_setWakes 23 = .ok (.aload_n 0, 1) := by decide +kernel
theorem dX1_setWakes_24 : decode cX1_setWakes 24 = .ok (.iload_n 3, 1) := by decide +kernel
theorem dX1_setWakes_25 : decode cX1_setWakes 25 = .ok (.invokevirtual 65, 3) := by decide +kernel
theorem dX1_setWakes_28 : decode cX1_setWakes 28 = .ok (.ifCond .ne 5, 3) := by decide +kernel
theorem dX1_setWakes_31 : decode cX1_setWakes 31 = .ok (.iconst 0, 1) := by decide +kernel
theorem dX1_setWakes_32 : decode cX1_setWakes 32 = .ok (.ireturn, 1) := by decide +kernel
theorem dX1_setWakes_33 : decode cX1_setWakes 33 = .ok (.aload_n 0, 1) := by decide +kernel
theorem dX1_setWakes_34 : decode cX1_setWakes 34 = .ok (.getfield 28, 3) := by decide +kernel
theorem dX1_setWakes_37 : decode cX1_setWakes 37 = .ok (.iload_n 3, 1) := by decide +kernel
theorem dX1_setWakes_38 : decode cX1_setWakes 38 = .ok (.iload 4, 2) := by decide +kernel
theorem dX1_setWakes_40 : decode cX1_setWakes 40 = .ok (.iload_n 2, 1) := by decide +kernel
theorem dX1_setWakes_41 : decode cX1_setWakes 41 = .ok (.imul, 1) := by decide +kernel
theorem dX1_setWakes_42 : decode cX1_setWakes 42 = .ok (.iastore, 1) := by decide +kernel
theorem dX1_setWakes_43 : decode cX1_setWakes 43 = .ok (.iinc 3 1, 3) := by decide +kernel
theorem dX1_setWakes_46 : decode cX1_setWakes 46 = .ok (.goto (-44), 3) := by decide +kernel
theorem dX1_setWakes_49 : decode cX1_setWakes 49 = .ok (.iconst 1, 1) := by decide +kernel
theorem dX1_setWakes_50 : decode cX1_setWakes 50 = .ok (.ireturn, 1) := by decide +kernel
theorem dX1_hasKind_0 : decode cX1_hasKind 0 = .ok (.iconst 0, 1) := by decide +kernel
theorem dX1_hasKind_1 : decode cX1_hasKind 1 = .ok (.istore_n 2, 1) := by decide +kernel
theorem dX1_hasKind_2 : decode cX1_hasKind 2 = .ok (.iload_n 2, 1) := by decide +kernel
theorem dX1_hasKind_3 : decode cX1_hasKind 3 = .ok (.aload_n 0, 1) := by decide +kernel
theorem dX1_hasKind_4 : decode cX1_hasKind 4 = .ok (.getfield 46, 3) := by decide +kernel
theorem dX1_hasKind_7 : decode cX1_hasKind 7 = .ok (.if_icmp .ge 24, 3) := by decide +kernel
theorem dX1_hasKind_10 : decode cX1_hasKind 10 = .ok (.aload_n 0, 1) := by decide +kernel
theorem dX1_hasKind_11 : decode cX1_hasKind 11 = .ok (.getfield 11, 3) := by decide +kernel
theorem dX1_hasKind_14 : decode cX1_hasKind 14 = .ok (.iload_n 2, 1) := by decide +kernel
theorem dX1_hasKind_15 : decode cX1_hasKind 15 = .ok (.aaload, 1) := by decide +kernel
theorem dX1_hasKind_16 : decode cX1_hasKind 16 = .ok (.getfield 49, 3) := by decide +kernel
theorem dX1_hasKind_19 : decode cX1_hasKind 19 = .ok (.iload_n 1, 1) := by decide +kernel
theorem dX1_hasKind_20 : decode cX1_hasKind 20 = .ok (.if_icmp .ne 5, 3) := by decide +kernel
theorem dX1_hasKind_23 : decode cX1_hasKind 23 = .ok (.iconst 1, 1) := by decide +kernel
theorem dX1_hasKind_24 : decode cX1_hasKind 24 = .ok (.ireturn, 1) := by decide +kernel
theorem dX1_hasKind_25 : decode cX1_hasKind 25 = .ok (.iinc 2 1, 3) := by decide +kernel
theorem dX1_hasKind_28 : decode cX1_hasKind 28 = .ok (.goto (-26), 3) := by decide +kernel
theorem dX1_hasKind_31 : decode cX1_hasKind 31 = .ok (.iconst 0, 1) := by decide +kernel
theorem dX1_hasKind_32 : decode cX1_hasKind 32 = .ok (.ireturn, 1) := by decide +kernel
theorem dX1_mustWait_0 : decode cX1_mustWait 0 = .ok (.iconst 0, 1) := by decide +kernel
theorem dX1_mustWait_1 : decode cX1_mustWait 1 = .ok (.istore_n 3, 1) := by decide +kernel
theorem dX1_mustWait_2 : decode cX1_mustWait 2 = .ok (.iload_n 3, 1) := by decide +kernel
theorem dX1_mustWait_3 : decode cX1_mustWait 3 = .ok (.aload_n 0, 1) := by decide +kernel
theorem dX1_mustWait_4 : decode cX1_mustWait 4 = .ok (.getfield 46, 3) := by decide +kernel
theorem dX1_mustWait_7 : decode cX1_mustWait 7 = .ok (.if_icmp .ge 45, 3) := by decide +kernel
theorem dX1_mustWait_10 : decode cX1_mustWait 10 = .ok (.aload_n 0, 1) := by decide +kernel
theorem dX1_mustWait_11 : decode cX1_mustWait 11 = .ok (.getfield 11, 3) := by decide +kernel
theorem dX1_mustWait_14 : decode cX1_mustWait 14 = .ok (.iload_n 3, 1) := by decide +kernel
theorem dX1_mustWait_15 : decode cX1_mustWait 15 = .ok (.aaload, 1) := by decide +kernel
theorem dX1_mustWait_16 : decode cX1_mustWait 16 = .ok (.astore 4, 2) := by decide +kernel
theorem dX1_mustWait_18 : decode cX1_mustWait 18 = .ok (.iload_n 3, 1) := by decide +kernel
theorem dX1_mustWait_19 : decode cX1_mustWait 19 = .ok (.iload_n 1, 1) := by decide +kernel
theorem dX1_mustWait_20 : decode cX1_mustWait 20 = .ok (.if_icmp .eq 26, 3) := by decide +kernel
theorem dX1_mustWait_23 : decode cX1_mustWait 23 = .ok (.iload_n 2, 1) := by decide +kernel
theorem dX1_mustWait_24 : decode cX1_mustWait 24 = .ok (.aload 4, 2) := by decide +kernel
theorem dX1_mustWait_26 : decode cX1_mustWait 26 = .ok (.getfield 49, 3) := by decide +kernel
theorem dX1_mustWait_29 : decode cX1_mustWait 29 = .ok (.iushr, 1) := by decide +kernel
theorem dX1_mustWait_30 : decode cX1_mustWait 30 = .ok (.iconst 1, 1) := by decide +kernel
theorem dX1_mustWait_31 : decode cX1_mustWait 31 = .ok (.iand, 1) := by decide +kernel
theorem dX1_mustWait_32 : decode cX1_mustWait 32 = .ok (.ifCond .eq 14, 3) := by decide +kernel
theorem dX1_mustWait_35 : decode cX1_mustWait 35 = .ok (.aload 4, 2) := by decide +kernel
theorem dX1_mustWait_37 : decode cX1_mustWait 37 = .ok (.getfield 69, 3) := by decide +kernel
theorem dX1_mustWait_40 : decode cX1_mustWait 40 = .ok (.iconst 4, 1) := by decide +kernel
theorem dX1_mustWait_41 : decode cX1_mustWait 41 = .ok (.if_icmp .eq 5, 3) := by decide +kernel
theorem dX1_mustWait_44 : decode cX1_mustWait 44 = .ok (.iconst 1, 1) := by decide +kernel
theorem dX1_mustWait_45 : decode cX1_mustWait 45 = .ok (.ireturn, 1) := by decide +kernel
theorem dX1_mustWait_46 : decode cX1_mustWait 46 = .ok (.iinc 3 1, 3) := by decide +kernel
theorem dX1_mustWait_49 : decode cX1_mustWait 49 = .ok (.goto (-47), 3) := by decide +kernel
theorem dX1_mustWait_52 : decode cX1_mustWait 52 = .ok (.iconst 0, 1) := by decide +kernel
theorem dX1_mustWait_53 : decode cX1_mustWait 53 = .ok (.ireturn, 1) := by decide +kernel
theorem dX2_init_0 : decode cX2_init 0 = .ok (.aload_n 0, 1) := by decide +kernel
theorem dX2_init_1 : decode cX2_init 1 = .ok (.invokespecial 3, 3) := by decide +kernel
theorem dX2_init_4 : decode cX2_init 4 = .ok (.return_, 1) := by decide +kernel
theorem dX2_reset_0 : decode cX2_reset 0 = .ok (.aload_n 0, 1) := by decide +kernel
theorem dX2_reset_1 : decode cX2_reset 1 = .ok (.iconst 0, 1) := by decide +kernel
theorem dX2_reset_2 : decode cX2_reset 2 = .ok (.putfield 9, 3) := by decide +kernel
theorem dX2_reset_5 : decode cX2_reset 5 = .ok (.aload_n 0, 1) := by decide +kernel
theorem dX2_reset_6 : decode cX2_reset 6 = .ok (.iconst (-1), 1) := by decide +kernel
theorem dX2_reset_7 : decode cX2_reset 7 = .ok (.putfield 15, 3) := by decide +kernel
theorem dX2_reset_10 : decode cX2_reset 10 = .ok (.aload_n 0, 1) := by decide +kernel
theorem dX2_reset_11 : decode cX2_reset 11 = .ok (.iconst 0, 1) := by decide +kernel
theorem dX2_reset_12 : decode cX2_reset 12 = .ok (.putfield 18, 3) := by decide +kernel
theorem dX2_reset_15 : decode cX2_reset 15 = .ok (.aload_n 0, 1) := by decide +kernel
theorem dX2_reset_16 : decode cX2_reset 16 = .ok (.iconst 0, 1) := by decide +kernel
theorem dX2_reset_17 : decode cX2_reset 17 = .ok (.invokevirtual 21, 3) := by decide +kernel
theorem dX2_reset_20 : decode cX2_reset 20 = .ok (.aload_n 0, 1) := by decide +kernel
theorem dX2_reset_21 : decode cX2_reset 21 = .ok (.invokevirtual 25, 3) := by decide +kernel
theorem dX2_reset_24 : decode cX2_reset 24 = .ok (.return_, 1) := by decide +kernel
theorem dX2_losePower_0 : decode cX2_losePower 0 = .ok (.aload_n 0, 1) := by decide +kernel
theorem dX2_losePower_1 : decode cX2_losePower 1 = .ok (.iconst 0, 1) := by decide +kernel
theorem dX2_losePower_2 : decode cX2_losePower 2 = .ok (.invokevirtual 21, 3) := by decide +kernel
theorem dX2_losePower_5 : decode cX2_losePower 5 = .ok (.aload_n 0, 1) := by decide +kernel
theorem dX2_losePower_6 : decode cX2_losePower 6 = .ok (.invokevirtual 25, 3) := by decide +kernel
theorem dX2_losePower_9 : decode cX2_losePower 9 = .ok (.aload_n 0, 1) := by decide +kernel
theorem dX2_losePower_10 : decode cX2_losePower 10 = .ok (.iload_n 1, 1) := by decide +kernel
theorem dX2_losePower_11 : decode cX2_losePower 11 = .ok (.iconst 3, 1) := by decide +kernel
theorem dX2_losePower_12 : decode cX2_losePower 12 = .ok (.iadd, 1) := by decide +kernel
theorem dX2_losePower_13 : decode cX2_losePower 13 = .ok (.putfield 18, 3) := by decide +kernel
theorem dX2_losePower_16 : decode cX2_losePower 16 = .ok (.return_, 1) := by decide +kernel
theorem dX2_begin_0 : decode cX2_begin 0 = .ok (.aload_n 0, 1) := by decide +kernel
theorem dX2_begin_1 : decode cX2_begin 1 = .ok (.iconst 1, 1) := by decide +kernel
theorem dX2_begin_2 : decode cX2_begin 2 = .ok (.invokevirtual 21, 3) := by decide +kernel
theorem dX2_begin_5 : decode cX2_begin 5 = .ok (.aload_n 0, 1) := by decide +kernel
theorem dX2_begin_6 : decode cX2_begin 6 = .ok (.invokevirtual 25, 3) := by decide +kernel
theorem dX2_begin_9 : decode cX2_begin 9 = .ok (.aload_n 0, 1) := by decide +kernel
theorem dX2_begin_10 : decode cX2_begin 10 = .ok (.dup, 1) := by decide +kernel
theorem dX2_begin_11 : decode cX2_begin 11 = .ok (.getfield 9, 3) := by decide +kernel
theorem dX2_begin_14 : decode cX2_begin 14 = .ok (.iconst 1, 1) := by decide +kernel
theorem dX2_begin_15 : decode cX2_begin 15 = .ok (.iadd, 1) := by decide +kernel
theorem dX2_begin_16 : decode cX2_begin 16 = .ok (.putfield 9, 3) := by decide +kernel
theorem dX2_begin_19 : decode cX2_begin 19 = .ok (.aload_n 0, 1) := by decide +kernel
theorem dX2_begin_20 : decode cX2_begin 20 = .ok (.iload_n 1, 1) := by decide +kernel
theorem dX2_begin_21 : decode cX2_begin 21 = .ok (.putfield 28, 3) := by decide +kernel
theorem dX2_begin_24 : decode cX2_begin 24 = .ok (.return_, 1) := by decide +kernel
theorem dX2_failToAsk_0 : decode cX2_failToAsk 0 = .ok (.aload_n 0, 1) := by decide +kernel
theorem dX2_failToAsk_1 : decode cX2_failToAsk 1 = .ok (.dup, 1) := by decide +kernel
theorem dX2_failToAsk_2 : decode cX2_failToAsk 2 = .ok (.getfield 31, 3) := by decide +kernel
theorem dX2_failToAsk_5 : decode cX2_failToAsk 5 = .ok (.iconst 1, 1) := by decide +kernel
theorem dX2_failToAsk_6 : decode cX2_failToAsk 6 = .ok (.iadd, 1) := by decide +kernel
theorem dX2_failToAsk_7 : decode cX2_failToAsk 7 = .ok (.putfield 31, 3) := by decide +kernel
theorem dX2_failToAsk_10 : decode cX2_failToAsk 10 = .ok (.aload_n 0, 1) := by decide +kernel
theorem dX2_failToAsk_11 : decode cX2_failToAsk 11 = .ok (.getfield 31, 3) := by decide +kernel
theorem dX2_failToAsk_14 : decode cX2_failToAsk 14 = .ok (.iconst 5, 1) := by decide +kernel
theorem dX2_failToAsk_15 : decode cX2_failToAsk 15 = .ok (.if_icmp .lt 11, 3) := by decide +kernel
theorem dX2_failToAsk_18 : decode cX2_failToAsk 18 = .ok (.aload_n 0, 1) := by decide +kernel
theorem dX2_failToAsk_19 : decode cX2_failToAsk 19 = .ok (.iload_n 1, 1) := by decide +kernel
theorem dX2_failToAsk_20 : decode cX2_failToAsk 20 = .ok (.invokevirtual 34, 3) := by decide +kernel
theorem dX2_failToAsk_23 : decode cX2_failToAsk 23 = .ok (.goto 15, 3) := by decide +kernel
theorem dX2_failToAsk_26 : decode cX2_failToAsk 26 = .ok (.aload_n 0, 1) := by decide +kernel
theorem dX2_failToAsk_27 : decode cX2_failToAsk 27 = .ok (.iload_n 2, 1) := by decide +kernel
theorem dX2_failToAsk_28 : decode cX2_failToAsk 28 = .ok (.iconst 1, 1) := by decide +kernel
theorem dX2_failToAsk_29 : decode cX2_failToAsk 29 = .ok (.aload_n 0, 1) := by decide +kernel
theorem dX2_failToAsk_30 : decode cX2_failToAsk 30 = .ok (.getfield 31, 3) := by decide +kernel
theorem dX2_failToAsk_33 : decode cX2_failToAsk 33 = .ok (.ishl, 1) := by decide +kernel
theorem dX2_failToAsk_34 : decode cX2_failToAsk 34 = .ok (.iadd, 1) := by decide +kernel
theorem dX2_failToAsk_35 : decode cX2_failToAsk 35 = .ok (.putfield 28, 3) := by decide +kernel
theorem dX2_failToAsk_38 : decode cX2_failToAsk 38 = .ok (.return_, 1) := by decide +kernel
theorem dX2_fetch_0 : decode cX2_fetch 0 = .ok (.aload_n 0, 1) := by decide +kernel
theorem dX2_fetch_1 : decode cX2_fetch 1 = .ok (.iconst 2, 1) := by decide +kernel
theorem dX2_fetch_2 : decode cX2_fetch 2 = .ok (.invokevirtual 21, 3) := by decide +kernel
theorem dX2_fetch_5 : decode cX2_fetch 5 = .ok (.aload_n 0, 1) := by decide +kernel
theorem dX2_fetch_6 : decode cX2_fetch 6 = .ok (.iload_n 1, 1) := by decide +kernel
theorem dX2_fetch_7 : decode cX2_fetch 7 = .ok (.putfield 37, 3) := by decide +kernel
theorem dX2_fetch_10 : decode cX2_fetch 10 = .ok (.aload_n 0, 1) := by decide +kernel
theorem dX2_fetch_11 : decode cX2_fetch 11 = .ok (.iconst 0, 1) := by decide +kernel
theorem dX2_fetch_12 : decode cX2_fetch 12 = .ok (.putfield 40, 3) := by decide +kernel
theorem dX2_fetch_15 : decode cX2_fetch 15 = .ok (.aload_n 0, 1) := by decide +kernel
theorem dX2_fetch_16 : decode cX2_fetch 16 = .ok (.iload_n 2, 1) := by decide +kernel
theorem dX2_fetch_17 : decode cX2_fetch 17 = .ok (.putfield 43, 3) := by decide +kernel
theorem dX2_fetch_20 : decode cX2_fetch 20 = .ok (.aload_n 0, 1) := by decide +kernel
theorem dX2_fetch_21 : decode cX2_fetch 21 = .ok (.iload_n 3, 1) := by decide +kernel
theorem dX2_fetch_22 : decode cX2_fetch 22 = .ok (.putfield 46, 3) := by decide +kernel
theorem dX2_fetch_25 : decode cX2_fetch 25 = .ok (.return_, 1) := by decide +kernel
theorem dX2_getNone_0 : decode cX2_getNone 0 = .ok (.aload_n 0, 1) := by decide +kernel
theorem dX2_getNone_1 : decode cX2_getNone 1 = .ok (.dup, 1) := by decide +kernel
theorem dX2_getNone_2 : decode cX2_getNone 2 = .ok (.getfield 49, 3) := by decide +kernel
theorem dX2_getNone_5 : decode cX2_getNone 5 = .ok (.iconst 1, 1) := by decide +kernel
theorem dX2_getNone_6 : decode cX2_getNone 6 = .ok (.iadd, 1) := by decide +kernel
theorem dX2_getNone_7 : decode cX2_getNone 7 = .ok (.putfield 49, 3) := by decide +kernel
theorem dX2_getNone_10 : decode cX2_getNone 10 = .ok (.aload_n 0, 1) := by decide +kernel
theorem dX2_getNone_11 : decode cX2_getNone 11 = .ok (.getfield 49, 3) := by decide +kernel
theorem dX2_getNone_14 : decode cX2_getNone 14 = .ok (.bipush 12, 2) := by decide +kernel
theorem dX2_getNone_16 : decode cX2_getNone 16 = .ok (.if_icmp .lt 8, 3) := by decide +kernel
theorem dX2_getNone_19 : decode cX2_getNone 19 = .ok (.aload_n 0, 1) := by decide +kernel
theorem dX2_getNone_20 : decode cX2_getNone 20 = .ok (.iconst 4, 1) := by decide +kernel
theorem dX2_getNone_21 : decode cX2_getNone 21 = .ok (.invokevirtual 34, 3) := by decide +kernel
theorem dX2_getNone_24 : decode cX2_getNone 24 = .ok (.return_, 1) := by decide +kernel
theorem dX2_getWrong_0 : decode cX2_getWrong 0 = .ok (.aload_n 0, 1) := by decide +kernel
theorem dX2_getWrong_1 : decode cX2_getWrong 1 = .ok (.dup, 1) := by decide +kernel
theorem dX2_getWrong_2 : decode cX2_getWrong 2 = .ok (.getfield 52, 3) := by decide +kernel
theorem dX2_getWrong_5 : decode cX2_getWrong 5 = .ok (.iconst 1, 1) := by decide +kernel
theorem dX2_getWrong_6 : decode cX2_getWrong 6 = .ok (.iadd, 1) := by decide +kernel
theorem dX2_getWrong_7 : decode cX2_getWrong 7 = .ok (.putfield 52, 3) := by decide +kernel
theorem dX2_getWrong_10 : decode cX2_getWrong 10 = .ok (.aload_n 0, 1) := by decide +kernel
theorem dX2_getWrong_11 : decode cX2_getWrong 11 = .ok (.getfield 52, 3) := by decide +kernel
theorem dX2_getWrong_14 : decode cX2_getWrong 14 = .ok (.iconst 4, 1) := by decide +kernel
theorem dX2_getWrong_15 : decode cX2_getWrong 15 = .ok (.if_icmp .lt 8, 3) := by decide +kernel
theorem dX2_getWrong_18 : decode cX2_getWrong 18 = .ok (.aload_n 0, 1) := by decide +kernel
theorem dX2_getWrong_19 : decode cX2_getWrong 19 = .ok (.iconst 3, 1) := by decide +kernel
theorem dX2_getWrong_20 : decode cX2_getWrong 20 = .ok (.invokevirtual 34, 3) := by decide +kernel
theorem dX2_getWrong_23 : decode cX2_getWrong 23 = .ok (.return_, 1) := by decide +kernel
theorem dX2_install_0 : decode cX2_install 0 = .ok (.aload_n 0, 1) := by decide +kernel
theorem dX2_install_1 : decode cX2_install 1 = .ok (.iconst 3, 1) := by decide +kernel
theorem dX2_install_2 : decode cX2_install 2 = .ok (.putfield 55, 3) := by decide +kernel
theorem dX2_install_5 : decode cX2_install 5 = .ok (.aload_n 0, 1) := by decide +kernel
theorem dX2_install_6 : decode cX2_install 6 = .ok (.iconst 0, 1) := by decide +kernel
theorem dX2_install_7 : decode cX2_install 7 = .ok (.putfield 40, 3) := by decide +kernel
theorem dX2_install_10 : decode cX2_install 10 = .ok (.aload_n 0, 1) := by decide +kernel
theorem dX2_install_11 : decode cX2_install 11 = .ok (.iload_n 1, 1) := by decide +kernel
theorem dX2_install_12 : decode cX2_install 12 = .ok (.putfield 46, 3) := by decide +kernel
theorem dX2_install_15 : decode cX2_install 15 = .ok (.return_, 1) := by decide +kernel
theorem dX2_write_0 : decode cX2_write 0 = .ok (.aload_n 0, 1) := by decide +kernel
theorem dX2_write_1 : decode cX2_write 1 = .ok (.getfield 40, 3) := by decide +kernel
theorem dX2_write_4 : decode cX2_write 4 = .ok (.iload_n 1, 1) := by decide +kernel
theorem dX2_write_5 : decode cX2_write 5 = .ok (.if_icmp .ge 16, 3) := by decide +kernel
theorem dX2_write_8 : decode cX2_write 8 = .ok (.aload_n 0, 1) := by decide +kernel
theorem dX2_write_9 : decode cX2_write 9 = .ok (.dup, 1) := by decide +kernel
theorem dX2_write_10 : decode cX2_write 10 = .ok (.getfield 40, 3) := by decide +kernel
theorem dX2_write_13 : decode cX2_write 13 = .ok (.iconst 1, 1) := by decide +kernel
theorem dX2_write_14 : decode cX2_write 14 = .ok (.iadd, 1) := by decide +kernel
theorem dX2_write_15 : decode cX2_write 15 = .ok (.putfield 40, 3) := by decide +kernel
theorem dX2_write_18 : decode cX2_write 18 = .ok (.goto 16, 3) := by decide +kernel
theorem dX2_write_21 : decode cX2_write 21 = .ok (.aload_n 0, 1) := by decide +kernel
theorem dX2_write_22 : decode cX2_write 22 = .ok (.aload_n 0, 1) := by decide +kernel
theorem dX2_write_23 : decode cX2_write 23 = .ok (.getfield 37, 3) := by decide +kernel
theorem dX2_write_26 : decode cX2_write 26 = .ok (.putfield 15, 3) := by decide +kernel
theorem dX2_write_29 : decode cX2_write 29 = .ok (.aload_n 0, 1) := by decide +kernel
theorem dX2_write_30 : decode cX2_write 30 = .ok (.iconst 4, 1) := by decide +kernel
theorem dX2_write_31 : decode cX2_write 31 = .ok (.invokevirtual 21, 3) := by decide +kernel
theorem dX2_write_34 : decode cX2_write 34 = .ok (.return_, 1) := by decide +kernel
theorem dX2_enterRescue_0 : decode cX2_enterRescue 0 = .ok (.aload_n 0, 1) := by decide +kernel
theorem dX2_enterRescue_1 : decode cX2_enterRescue 1 = .ok (.iconst 5, 1) := by decide +kernel
theorem dX2_enterRescue_2 : decode cX2_enterRescue 2 = .ok (.invokevirtual 21, 3) := by decide +kernel
theorem dX2_enterRescue_5 : decode cX2_enterRescue 5 = .ok (.aload_n 0, 1) := by decide +kernel
theorem dX2_enterRescue_6 : decode cX2_enterRescue 6 = .ok (.iload_n 1, 1) := by decide +kernel
theorem dX2_enterRescue_7 : decode cX2_enterRescue 7 = .ok (.putfield 58, 3) := by decide +kernel
theorem dX2_enterRescue_10 : decode cX2_enterRescue 10 = .ok (.return_, 1) := by decide +kernel
theorem dX2_isSettled_0 : decode cX2_isSettled 0 = .ok (.aload_n 0, 1) := by decide +kernel
theorem dX2_isSettled_1 : decode cX2_isSettled 1 = .ok (.getfield 55, 3) := by decide +kernel
theorem dX2_isSettled_4 : decode cX2_isSettled 4 = .ok (.iconst 4, 1) := by decide +kernel
theorem dX2_isSettled_5 : decode cX2_isSettled 5 = .ok (.if_icmp .eq 11, 3) := by decide +kernel
theorem dX2_isSettled_8 : decode cX2_isSettled 8 = .ok (.aload_n 0, 1) := by decide +kernel
theorem dX2_isSettled_9 : decode cX2_isSettled 9 = .ok (.getfield 55, 3) := by decide +kernel
theorem dX2_isSettled_12 : decode cX2_isSettled 12 = .ok (.iconst 5, 1) := by decide +kernel
theorem dX2_isSettled_13 : decode cX2_isSettled 13 = .ok (.if_icmp .ne 7, 3) := by decide +kernel
theorem dX2_isSettled_16 : decode cX2_isSettled 16 = .ok (.iconst 1, 1) := by decide +kernel
theorem dX2_isSettled_17 : decode cX2_isSettled 17 = .ok (.goto 4, 3) := by decide +kernel
theorem dX2_isSettled_20 : decode cX2_isSettled 20 = .ok (.iconst 0, 1) := by decide +kernel
theorem dX2_isSettled_21 : decode cX2_isSettled 21 = .ok (.ireturn, 1) := by decide +kernel
theorem dX2_snapshot_0 : decode cX2_snapshot 0 = .ok (.aload_n 0, 1) := by decide +kernel
theorem dX2_snapshot_1 : decode cX2_snapshot 1 = .ok (.getfield 55, 3) := by decide +kernel
theorem dX2_snapshot_4 : decode cX2_snapshot 4 = .ok (.iconst 1, 1) := by decide +kernel
theorem dX2_snapshot_5 : decode cX2_snapshot 5 = .ok (.iadd, 1) := by decide +kernel
theorem dX2_snapshot_6 : decode cX2_snapshot 6 = .ok (.aload_n 0, 1) := by decide +kernel
theorem dX2_snapshot_7 : decode cX2_snapshot 7 = .ok (.getfield 37, 3) := by decide +kernel
theorem dX2_snapshot_10 : decode cX2_snapshot 10 = .ok (.iconst 1, 1) := by decide +kernel
theorem dX2_snapshot_11 : decode cX2_snapshot 11 = .ok (.iadd, 1) := by decide +kernel
theorem dX2_snapshot_12 : decode cX2_snapshot 12 = .ok (.iconst 4, 1) := by decide +kernel
theorem dX2_snapshot_13 : decode cX2_snapshot 13 = .ok (.ishl, 1) := by decide +kernel
theorem dX2_snapshot_14 : decode cX2_snapshot 14 = .ok (.ior, 1) := by decide +kernel
theorem dX2_snapshot_15 : decode cX2_snapshot 15 = .ok (.aload_n 0, 1) := by decide +kernel
theorem dX2_snapshot_16 : decode cX2_snapshot 16 = .ok (.getfield 40, 3) := by decide +kernel
theorem dX2_snapshot_19 : decode cX2_snapshot 19 = .ok (.iconst 1, 1) := by decide +kernel
theorem dX2_snapshot_20 : decode cX2_snapshot 20 = .ok (.iadd, 1) := by decide +kernel
theorem dX2_snapshot_21 : decode cX2_snapshot 21 = .ok (.bipush 8, 2) := by decide +kernel
theorem dX2_snapshot_23 : decode cX2_snapshot 23 = .ok (.ishl, 1) := by decide +kernel
theorem dX2_snapshot_24 : decode cX2_snapshot 24 = .ok (.ior, 1) := by decide +kernel
theorem dX2_snapshot_25 : decode cX2_snapshot 25 = .ok (.aload_n 0, 1) := by decide +kernel
theorem dX2_snapshot_26 : decode cX2_snapshot 26 = .ok (.getfield 15, 3) := by decide +kernel
theorem dX2_snapshot_29 : decode cX2_snapshot 29 = .ok (.iconst 1, 1) := by decide +kernel
theorem dX2_snapshot_30 : decode cX2_snapshot 30 = .ok (.iadd, 1) := by decide +kernel
theorem dX2_snapshot_31 : decode cX2_snapshot 31 = .ok (.bipush 12, 2) := by decide +kernel
theorem dX2_snapshot_33 : decode cX2_snapshot 33 = .ok (.ishl, 1) := by decide +kernel
theorem dX2_snapshot_34 : decode cX2_snapshot 34 = .ok (.ior, 1) := by decide +kernel
theorem dX2_snapshot_35 : decode cX2_snapshot 35 = .ok (.aload_n 0, 1) := by decide +kernel
theorem dX2_snapshot_36 : decode cX2_snapshot 36 = .ok (.getfield 58, 3) := by decide +kernel
theorem dX2_snapshot_39 : decode cX2_snapshot 39 = .ok (.iconst 1, 1) := by decide +kernel
theorem dX2_snapshot_40 : decode cX2_snapshot 40 = .ok (.iadd, 1) := by decide +kernel
theorem dX2_snapshot_41 : decode cX2_snapshot 41 = .ok (.bipush 16, 2) := by decide +kernel
theorem dX2_snapshot_43 : decode cX2_snapshot 43 = .ok (.ishl, 1) := by decide +kernel
theorem dX2_snapshot_44 : decode cX2_snapshot 44 = .ok (.ior, 1) := by decide +kernel
theorem dX2_snapshot_45 : decode cX2_snapshot 45 = .ok (.aload_n 0, 1) := by decide +kernel
theorem dX2_snapshot_46 : decode cX2_snapshot 46 = .ok (.getfield 31, 3) := by decide +kernel
theorem dX2_snapshot_49 : decode cX2_snapshot 49 = .ok (.iconst 1, 1) := by decide +kernel
theorem dX2_snapshot_50 : decode cX2_snapshot 50 = .ok (.iadd, 1) := by decide +kernel
theorem dX2_snapshot_51 : decode cX2_snapshot 51 = .ok (.bipush 20, 2) := by decide +kernel
theorem dX2_snapshot_53 : decode cX2_snapshot 53 = .ok (.ishl, 1) := by decide +kernel
theorem dX2_snapshot_54 : decode cX2_snapshot 54 = .ok (.ior, 1) := by decide +kernel
theorem dX2_snapshot_55 : decode cX2_snapshot 55 = .ok (.aload_n 0, 1) := by decide +kernel
theorem dX2_snapshot_56 : decode cX2_snapshot 56 = .ok (.getfield 52, 3) := by decide +kernel
theorem dX2_snapshot_59 : decode cX2_snapshot 59 = .ok (.iconst 1, 1) := by decide +kernel
theorem dX2_snapshot_60 : decode cX2_snapshot 60 = .ok (.iadd, 1) := by decide +kernel
theorem dX2_snapshot_61 : decode cX2_snapshot 61 = .ok (.bipush 24, 2) := by decide +kernel
theorem dX2_snapshot_63 : decode cX2_snapshot 63 = .ok (.ishl, 1) := by decide +kernel
theorem dX2_snapshot_64 : decode cX2_snapshot 64 = .ok (.ior, 1) := by decide +kernel
theorem dX2_snapshot_65 : decode cX2_snapshot 65 = .ok (.i2l, 1) := by decide +kernel
theorem dX2_snapshot_66 : decode cX2_snapshot 66 = .ok (.lstore_n 1, 1) := by decide +kernel
theorem dX2_snapshot_67 : decode cX2_snapshot 67 = .ok (.aload_n 0, 1) := by decide +kernel
theorem dX2_snapshot_68 : decode cX2_snapshot 68 = .ok (.getfield 49, 3) := by decide +kernel
theorem dX2_snapshot_71 : decode cX2_snapshot 71 = .ok (.iconst 1, 1) := by decide +kernel
theorem dX2_snapshot_72 : decode cX2_snapshot 72 = .ok (.iadd, 1) := by decide +kernel
theorem dX2_snapshot_73 : decode cX2_snapshot 73 = .ok (.aload_n 0, 1) := by decide +kernel
theorem dX2_snapshot_74 : decode cX2_snapshot 74 = .ok (.getfield 9, 3) := by decide +kernel
theorem dX2_snapshot_77 : decode cX2_snapshot 77 = .ok (.iconst 1, 1) := by decide +kernel
theorem dX2_snapshot_78 : decode cX2_snapshot 78 = .ok (.iadd, 1) := by decide +kernel
theorem dX2_snapshot_79 : decode cX2_snapshot 79 = .ok (.iconst 4, 1) := by decide +kernel
theorem dX2_snapshot_80 : decode cX2_snapshot 80 = .ok (.ishl, 1) := by decide +kernel
theorem dX2_snapshot_81 : decode cX2_snapshot 81 = .ok (.ior, 1) := by decide +kernel
theorem dX2_snapshot_82 : decode cX2_snapshot 82 = .ok (.aload_n 0, 1) := by decide +kernel
theorem dX2_snapshot_83 : decode cX2_snapshot 83 = .ok (.getfield 43, 3) := by decide +kernel
theorem dX2_snapshot_86 : decode cX2_snapshot 86 = .ok (.iconst 1, 1) := by decide +kernel
theorem dX2_snapshot_87 : decode cX2_snapshot 87 = .ok (.iadd, 1) := by decide +kernel
theorem dX2_snapshot_88 : decode cX2_snapshot 88 = .ok (.bipush 12, 2) := by decide +kernel
theorem dX2_snapshot_90 : decode cX2_snapshot 90 = .ok (.ishl, 1) := by decide +kernel
theorem dX2_snapshot_91 : decode cX2_snapshot 91 = .ok (.ior, 1) := by decide +kernel
theorem dX2_snapshot_92 : decode cX2_snapshot 92 = .ok (.i2l, 1) := by decide +kernel
theorem dX2_snapshot_93 : decode cX2_snapshot 93 = .ok (.lstore_n 3, 1) := by decide +kernel
theorem dX2_snapshot_94 : decode cX2_snapshot 94 = .ok (.lload_n 3, 1) := by decide +kernel
theorem dX2_snapshot_95 : decode cX2_snapshot 95 = .ok (.bipush 28, 2) := by decide +kernel
theorem dX2_snapshot_97 : decode cX2_snapshot 97 = .ok (.lshl, 1) := by decide +kernel
theorem dX2_snapshot_98 : decode cX2_snapshot 98 = .ok (.lload_n 1, 1) := by decide +kernel
theorem dX2_snapshot_99 : decode cX2_snapshot 99 = .ok (.lor, 1) := by decide +kernel
theorem dX2_snapshot_100 : decode cX2_snapshot 100 = .ok (.lreturn, 1) := by decide +kernel
theorem dX2_enter_0 : decode cX2_enter 0 = .ok (.aload_n 0, 1) := by decide +kernel
theorem dX2_enter_1 : decode cX2_enter 1 = .ok (.iload_n 1, 1) := by decide +kernel
theorem dX2_enter_2 : decode cX2_enter 2 = .ok (.putfield 55, 3) := by decide +kernel
theorem dX2_enter_5 : decode cX2_enter 5 = .ok (.aload_n 0, 1) := by decide +kernel
theorem dX2_enter_6 : decode cX2_enter 6 = .ok (.iconst (-1), 1) := by decide +kernel
theorem dX2_enter_7 : decode cX2_enter 7 = .ok (.putfield 37, 3) := by decide +kernel
theorem dX2_enter_10 : decode cX2_enter 10 = .ok (.aload_n 0, 1) := by decide +kernel
theorem dX2_enter_11 : decode cX2_enter 11 = .ok (.iconst (-1), 1) := by decide +kernel
theorem dX2_enter_12 : decode cX2_enter 12 = .ok (.putfield 40, 3) := by decide +kernel
theorem dX2_enter_15 : decode cX2_enter 15 = .ok (.aload_n 0, 1) := by decide +kernel
theorem dX2_enter_16 : decode cX2_enter 16 = .ok (.iconst 0, 1) := by decide +kernel
theorem dX2_enter_17 : decode cX2_enter 17 = .ok (.putfield 58, 3) := by decide +kernel
theorem dX2_enter_20 : decode cX2_enter 20 = .ok (.aload_n 0, 1) := by decide +kernel
theorem dX2_enter_21 : decode cX2_enter 21 = .ok (.iconst 0, 1) := by decide +kernel
theorem dX2_enter_22 : decode cX2_enter 22 = .ok (.putfield 43, 3) := by decide +kernel
theorem dX2_enter_25 : decode cX2_enter 25 = .ok (.return_, 1) := by decide +kernel
theorem dX2_clearTallies_0 : decode cX2_clearTallies 0 = .ok (.aload_n 0, 1) := by decide +kernel
theorem dX2_clearTallies_1 : decode cX2_clearTallies 1 = .ok (.iconst 0, 1) := by decide +kernel
theorem dX2_clearTallies_2 : decode cX2_clearTallies 2 = .ok (.putfield 31, 3) := by decide +kernel
theorem dX2_clearTallies_5 : decode cX2_clearTallies 5 = .ok (.aload_n 0, 1) := by decide +kernel
theorem dX2_clearTallies_6 : decode cX2_clearTallies 6 = .ok (.iconst 0, 1) := by decide +kernel
theorem dX2_clearTallies_7 : decode cX2_clearTallies 7 = .ok (.putfield 52, 3) := by decide +kernel
theorem dX2_clearTallies_10 : decode cX2_clearTallies 10 = .ok (.aload_n 0, 1) := by decide +kernel
theorem dX2_clearTallies_11 : decode cX2_clearTallies 11 = .ok (.iconst 0, 1) := by decide +kernel
theorem dX2_clearTallies_12 : decode cX2_clearTallies 12 = .ok (.putfield 49, 3) := by decide +kernel
theorem dX2_clearTallies_15 : decode cX2_clearTallies 15 = .ok (.return_, 1) := by decide +kernel
theorem dX3_init_0 : decode cX3_init 0 = .ok (.aload_n 0, 1) := by decide +kernel
theorem dX3_init_1 : decode cX3_init 1 = .ok (.invokespecial 3, 3) := by decide +kernel
theorem dX3_init_4 : decode cX3_init 4 = .ok (.aload_n 0, 1) := by decide +kernel
theorem dX3_init_5 : decode cX3_init 5 = .ok (.bipush 32, 2) := by decide +kernel
theorem dX3_init_7 : decode cX3_init 7 = .ok (.newarray .int, 2) := by decide +kernel
theorem dX3_init_9 : decode cX3_init 9 = .ok (.putfield 9, 3) := by decide +kernel
theorem dX3_init_12 : decode cX3_init 12 = .ok (.aload_n 0, 1) := by decide +kernel
theorem dX3_init_13 : decode cX3_init 13 = .ok (.new 15, 3) := by decide +kernel
theorem dX3_init_16 : decode cX3_init 16 = .ok (.dup, 1) := by decide +kernel
theorem dX3_init_17 : decode cX3_init 17 = .ok (.invokespecial 17, 3) := by decide +kernel
theorem dX3_init_20 : decode cX3_init 20 = .ok (.putfield 18, 3) := by decide +kernel
theorem dX3_init_23 : decode cX3_init 23 = .ok (.aload_n 0, 1) := by decide +kernel
theorem dX3_init_24 : decode cX3_init 24 = .ok (.iconst (-1), 1) := by decide +kernel
theorem dX3_init_25 : decode cX3_init 25 = .ok (.putfield 22, 3) := by decide +kernel
theorem dX3_init_28 : decode cX3_init 28 = .ok (.aload_n 0, 1) := by decide +kernel
theorem dX3_init_29 : decode cX3_init 29 = .ok (.new 26, 3) := by decide +kernel
theorem dX3_init_32 : decode cX3_init 32 = .ok (.dup, 1) := by decide +kernel
theorem dX3_init_33 : decode cX3_init 33 = .ok (.aload_n 1, 1) := by decide +kernel
theorem dX3_init_34 : decode cX3_init 34 = .ok (.invokespecial 28, 3) := by decide +kernel
theorem dX3_init_37 : decode cX3_init 37 = .ok (.putfield 31, 3) := by decide +kernel
theorem dX3_init_40 : decode cX3_init 40 = .ok (.return_, 1) := by decide +kernel
theorem dX3_exchange_0 : decode cX3_exchange 0 = .ok (.aload_n 0, 1) := by decide +kernel
theorem dX3_exchange_1 : decode cX3_exchange 1 = .ok (.getfield 18, 3) := by decide +kernel
theorem dX3_exchange_4 : decode cX3_exchange 4 = .ok (.astore_n 2, 1) := by decide +kernel
theorem dX3_exchange_5 : decode cX3_exchange 5 = .ok (.aload_n 0, 1) := by decide +kernel
theorem dX3_exchange_6 : decode cX3_exchange 6 = .ok (.aload_n 1, 1) := by decide +kernel
theorem dX3_exchange_7 : decode cX3_exchange 7 = .ok (.putfield 18, 3) := by decide +kernel
theorem dX3_exchange_10 : decode cX3_exchange 10 = .ok (.aload_n 2, 1) := by decide +kernel
theorem dX3_exchange_11 : decode cX3_exchange 11 = .ok (.areturn, 1) := by decide +kernel
theorem dX3_compile_0 : decode cX3_compile 0 = .ok (.aload_n 0, 1) := by decide +kernel
theorem dX3_compile_1 : decode cX3_compile 1 = .ok (.invokevirtual 35, 3) := by decide +kernel
theorem dX3_compile_4 : decode cX3_compile 4 = .ok (.iconst 0, 1) := by decide +kernel
theorem dX3_compile_5 : decode cX3_compile 5 = .ok (.istore_n 1, 1) := by decide +kernel
theorem dX3_compile_6 : decode cX3_compile 6 = .ok (.iload_n 1, 1) := by decide +kernel
theorem dX3_compile_7 : decode cX3_compile 7 = .ok (.sipush 400, 3) := by decide +kernel
theorem dX3_compile_10 : decode cX3_compile 10 = .ok (.if_icmp .gt 110, 3) := by decide +kernel
theorem dX3_compile_13 : decode cX3_compile 13 = .ok (.aload_n 0, 1) := by decide +kernel
theorem dX3_compile_14 : decode cX3_compile 14 = .ok (.getfield 31, 3) := by decide +kernel
theorem dX3_compile_17 : decode cX3_compile 17 = .ok (.invokevirtual 38, 3) := by decide +kernel
theorem dX3_compile_20 : decode cX3_compile 20 = .ok (.aload_n 0, 1) := by decide +kernel
theorem dX3_compile_21 : decode cX3_compile 21 = .ok (.aload_n 0, 1) := by decide +kernel
theorem dX3_compile_22 : decode cX3_compile 22 = .ok (.getfield 31, 3) := by decide +kernel
theorem dX3_compile_25 : decode cX3_compile 25 = .ok (.getfield 41, 3) := by decide +kernel
theorem dX3_compile_28 : decode cX3_compile 28 = .ok (.invokevirtual 44, 3) := by decide +kernel
theorem dX3_compile_31 : decode cX3_compile 31 = .ok (.istore_n 2, 1) := by decide +kernel
theorem dX3_compile_32 : decode cX3_compile 32 = .ok (.iload_n 2, 1) := by decide +kernel
theorem dX3_compile_33 : decode cX3_compile 33 = .ok (.iconst (-1), 1) := by decide +kernel
theorem dX3_compile_34 : decode cX3_compile 34 = .ok (.if_icmp .ne 16, 3) := by decide +kernel
theorem dX3_compile_37 : decode cX3_compile 37 = .ok (.aload_n 0, 1) := by decide +kernel
theorem dX3_compile_38 : decode cX3_compile 38 = .ok (.aload_n 0, 1) := by decide +kernel
theorem dX3_compile_39 : decode cX3_compile 39 = .ok (.getfield 31, 3) := by decide +kernel
theorem dX3_compile_42 : decode cX3_compile 42 = .ok (.getfield 48, 3) := by decide +kernel
theorem dX3_compile_45 : decode cX3_compile 45 = .ok (.putfield 22, 3) := by decide +kernel
theorem dX3_compile_48 : decode cX3_compile 48 = .ok (.iconst 1, 1) := by decide +kernel
theorem dX3_compile_49 : decode cX3_compile 49 = .ok (.ireturn, 1) := by decide +kernel
theorem dX3_compile_50 : decode cX3_compile 50 = .ok (.iload_n 2, 1) := by decide +kernel
theorem dX3_compile_51 : decode cX3_compile 51 = .ok (.bipush 7, 2) := by decide +kernel
theorem dX3_compile_53 : decode cX3_compile 53 = .ok (.if_icmp .ne 25, 3) := by decide +kernel
theorem dX3_compile_56 : decode cX3_compile 56 = .ok (.aload_n 0, 1) := by decide +kernel
theorem dX3_compile_57 : decode cX3_compile 57 = .ok (.aload_n 0, 1) := by decide +kernel
theorem dX3_compile_58 : decode cX3_compile 58 = .ok (.getfield 51, 3) := by decide +kernel
theorem dX3_compile_61 : decode cX3_compile 61 = .ok (.putfield 22, 3) := by decide +kernel
theorem dX3_compile_64 : decode cX3_compile 64 = .ok (.aload_n 0, 1) := by decide +kernel
theorem dX3_compile_65 : decode cX3_compile 65 = .ok (.getfield 51, 3) := by decide +kernel
theorem dX3_compile_68 : decode cX3_compile 68 = .ok (.iconst (-1), 1) := by decide +kernel
theorem dX3_compile_69 : decode cX3_compile 69 = .ok (.if_icmp .ne 7, 3) := by decide +kernel
theorem dX3_compile_72 : decode cX3_compile 72 = .ok (.iconst 0, 1) := by decide +kernel
theorem dX3_compile_73 : decode cX3_compile 73 = .ok (.goto 4, 3) := by decide +kernel
theorem dX3_compile_76 : decode cX3_compile 76 = .ok (.iconst 5, 1) := by decide +kernel
theorem dX3_compile_77 : decode cX3_compile 77 = .ok (.ireturn, 1) := by decide +kernel
theorem dX3_compile_78 : decode cX3_compile 78 = .ok (.iload_n 1, 1) := by decide +kernel
theorem dX3_compile_79 : decode cX3_compile 79 = .ok (.sipush 400, 3) := by decide +kernel
theorem dX3_compile_82 : decode cX3_compile 82 = .ok (.if_icmp .eq 10, 3) := by decide +kernel
theorem dX3_compile_85 : decode cX3_compile 85 = .ok (.aload_n 0, 1) := by decide +kernel
theorem dX3_compile_86 : decode cX3_compile 86 = .ok (.invokevirtual 54, 3) := by decide +kernel
theorem dX3_compile_89 : decode cX3_compile 89 = .ok (.ifCond .eq 16, 3) := by decide +kernel
theorem dX3_compile_92 : decode cX3_compile 92 = .ok (.aload_n 0, 1) := by decide +kernel
theorem dX3_compile_93 : decode cX3_compile 93 = .ok (.aload_n 0, 1) := by decide +kernel
theorem dX3_compile_94 : decode cX3_compile 94 = .ok (.getfield 31, 3) := by decide +kernel
theorem dX3_compile_97 : decode cX3_compile 97 = .ok (.getfield 48, 3) := by decide +kernel
theorem dX3_compile_100 : decode cX3_compile 100 = .ok (.putfield 22, 3) := by decide +kernel
theorem dX3_compile_103 : decode cX3_compile 103 = .ok (.iconst 2, 1) := by decide +kernel
theorem dX3_compile_104 : decode cX3_compile 104 = .ok (.ireturn, 1) := by decide +kernel
theorem dX3_compile_105 : decode cX3_compile 105 = .ok (.aload_n 0, 1) := by decide +kernel
theorem dX3_compile_106 : decode cX3_compile 106 = .ok (.invokevirtual 58, 3) := by decide +kernel
theorem dX3_compile_109 : decode cX3_compile 109 = .ok (.aload_n 0, 1) := by decide +kernel
theorem dX3_compile_110 : decode cX3_compile 110 = .ok (.iload_n 2, 1) := by decide +kernel
theorem dX3_compile_111 : decode cX3_compile 111 = .ok (.putfield 61, 3) := by decide +kernel
theorem dX3_compile_114 : decode cX3_compile 114 = .ok (.iinc 1 1, 3) := by decide +kernel
theorem dX3_compile_117 : decode cX3_compile 117 = .ok (.goto (-111), 3) := by decide +kernel
theorem dX3_compile_120 : decode cX3_compile 120 = .ok (.iconst 2, 1) := by decide +kernel
theorem dX3_compile_121 : decode cX3_compile 121 = .ok (.ireturn, 1) := by decide +kernel
theorem dX3_begin_0 : decode cX3_begin 0 = .ok (.aload_n 0, 1) := by decide +kernel
theorem dX3_begin_1 : decode cX3_begin 1 = .ok (.getfield 31, 3) := by decide +kernel
theorem dX3_begin_4 : decode cX3_begin 4 = .ok (.invokevirtual 64, 3) := by decide +kernel
theorem dX3_begin_7 : decode cX3_begin 7 = .ok (.aload_n 0, 1) := by decide +kernel
theorem dX3_begin_8 : decode cX3_begin 8 = .ok (.getfield 18, 3) := by decide +kernel
theorem dX3_begin_11 : decode cX3_begin 11 = .ok (.invokevirtual 67, 3) := by decide +kernel
theorem dX3_begin_14 : decode cX3_begin 14 = .ok (.aload_n 0, 1) := by decide +kernel
theorem dX3_begin_15 : decode cX3_begin 15 = .ok (.iconst 0, 1) := by decide +kernel
theorem dX3_begin_16 : decode cX3_begin 16 = .ok (.putfield 70, 3) := by decide +kernel
theorem dX3_begin_19 : decode cX3_begin 19 = .ok (.aload_n 0, 1) := by decide +kernel
theorem dX3_begin_20 : decode cX3_begin 20 = .ok (.iconst 0, 1) := by decide +kernel
theorem dX3_begin_21 : decode cX3_begin 21 = .ok (.putfield 61, 3) := by decide +kernel
theorem dX3_begin_24 : decode cX3_begin 24 = .ok (.aload_n 0, 1) := by decide +kernel
theorem dX3_begin_25 : decode cX3_begin 25 = .ok (.iconst 0, 1) := by decide +kernel
theorem dX3_begin_26 : decode cX3_begin 26 = .ok (.putfield 73, 3) := by decide +kernel
theorem dX3_begin_29 : decode cX3_begin 29 = .ok (.aload_n 0, 1) := by decide +kernel
theorem dX3_begin_30 : decode cX3_begin 30 = .ok (.iconst 0, 1) := by decide +kernel
theorem dX3_begin_31 : decode cX3_begin 31 = .ok (.putfield 76, 3) := by decide +kernel
theorem dX3_begin_34 : decode cX3_begin 34 = .ok (.aload_n 0, 1) := by decide +kernel
theorem dX3_begin_35 : decode cX3_begin 35 = .ok (.iconst (-1), 1) := by decide +kernel
theorem dX3_begin_36 : decode cX3_begin 36 = .ok (.putfield 51, 3) := by decide +kernel
theorem dX3_begin_39 : decode cX3_begin 39 = .ok (.return_, 1) := by decide +kernel
theorem dX3_following_0 : decode cX3_following 0 = .ok (.aload_n 0, 1) := by decide +kernel
theorem dX3_following_1 : decode cX3_following 1 = .ok (.getfield 61, 3) := by decide +kernel
theorem dX3_following_4 : decode cX3_following 4 = .ok (.tableswitch 152 0 5 #[40, 69, 80, 102, 113, 125], 40) := by decide +kernel
theorem dX3_following_44 : decode cX3_following 44 = .ok (.iload_n 1, 1) := by decide +kernel
theorem dX3_following_45 : decode cX3_following 45 = .ok (.iconst 4, 1) := by decide +kernel
theorem dX3_following_46 : decode cX3_following 46 = .ok (.if_icmp .ne 7, 3) := by decide +kernel
theorem dX3_following_49 : decode cX3_following 49 = .ok (.iconst 1, 1) := by decide +kernel
theorem dX3_following_50 : decode cX3_following 50 = .ok (.goto 22, 3) := by decide +kernel
theorem dX3_following_53 : decode cX3_following 53 = .ok (.iload_n 1, 1) := by decide +kernel
theorem dX3_following_54 : decode cX3_following 54 = .ok (.iconst 5, 1) := by decide +kernel
theorem dX3_following_55 : decode cX3_following 55 = .ok (.if_icmp .ne 7, 3) := by decide +kernel
theorem dX3_following_58 : decode cX3_following 58 = .ok (.iconst 3, 1) := by decide +kernel
theorem dX3_following_59 : decode cX3_following 59 = .ok (.goto 13, 3) := by decide +kernel
theorem dX3_following_62 : decode cX3_following 62 = .ok (.iload_n 1, 1) := by decide +kernel
theorem dX3_following_63 : decode cX3_following 63 = .ok (.ifCond .ne 8, 3) := by decide +kernel
theorem dX3_following_66 : decode cX3_following 66 = .ok (.bipush 7, 2) := by decide +kernel
theorem dX3_following_68 : decode cX3_following 68 = .ok (.goto 4, 3) := by decide +kernel
theorem dX3_following_71 : decode cX3_following 71 = .ok (.iconst (-1), 1) := by decide +kernel
theorem dX3_following_72 : decode cX3_following 72 = .ok (.ireturn, 1) := by decide +kernel
theorem dX3_following_73 : decode cX3_following 73 = .ok (.iload_n 1, 1) := by decide +kernel
theorem dX3_following_74 : decode cX3_following 74 = .ok (.iconst 2, 1) := by decide +kernel
theorem dX3_following_75 : decode cX3_following 75 = .ok (.if_icmp .ne 7, 3) := by decide +kernel
theorem dX3_following_78 : decode cX3_following 78 = .ok (.iconst 2, 1) := by decide +kernel
theorem dX3_following_79 : decode cX3_following 79 = .ok (.goto 4, 3) := by decide +kernel
theorem dX3_following_82 : decode cX3_following 82 = .ok (.iconst (-1), 1) := by decide +kernel
theorem dX3_following_83 : decode cX3_following 83 = .ok (.ireturn, 1) := by decide +kernel
theorem dX3_following_84 : decode cX3_following 84 = .ok (.iload_n 1, 1) := by decide +kernel
theorem dX3_following_85 : decode cX3_following 85 = .ok (.bipush 6, 2) := by decide +kernel
theorem dX3_following_87 : decode cX3_following 87 = .ok (.if_icmp .ne 7, 3) := by decide +kernel
theorem dX3_following_90 : decode cX3_following 90 = .ok (.iconst 5, 1) := by decide +kernel
theorem dX3_following_91 : decode cX3_following 91 = .ok (.goto 14, 3) := by decide +kernel
theorem dX3_following_94 : decode cX3_following 94 = .ok (.iload_n 1, 1) := by decide +kernel
theorem dX3_following_95 : decode cX3_following 95 = .ok (.bipush 12, 2) := by decide +kernel
theorem dX3_following_97 : decode cX3_following 97 = .ok (.if_icmp .ne 7, 3) := by decide +kernel
theorem dX3_following_100 : decode cX3_following 100 = .ok (.iconst 0, 1) := by decide +kernel
theorem dX3_following_101 : decode cX3_following 101 = .ok (.goto 4, 3) := by decide +kernel
theorem dX3_following_104 : decode cX3_following 104 = .ok (.iconst (-1), 1) := by decide +kernel
theorem dX3_following_105 : decode cX3_following 105 = .ok (.ireturn, 1) := by decide +kernel
theorem dX3_following_106 : decode cX3_following 106 = .ok (.iload_n 1, 1) := by decide +kernel
theorem dX3_following_107 : decode cX3_following 107 = .ok (.iconst 2, 1) := by decide +kernel
theorem dX3_following_108 : decode cX3_following 108 = .ok (.if_icmp .ne 7, 3) := by decide +kernel
theorem dX3_following_111 : decode cX3_following 111 = .ok (.iconst 4, 1) := by decide +kernel
theorem dX3_following_112 : decode cX3_following 112 = .ok (.goto 4, 3) := by decide +kernel
theorem dX3_following_115 : decode cX3_following 115 = .ok (.iconst (-1), 1) := by decide +kernel
theorem dX3_following_116 : decode cX3_following 116 = .ok (.ireturn, 1) := by decide +kernel
theorem dX3_following_117 : decode cX3_following 117 = .ok (.iload_n 1, 1) := by decide +kernel
theorem dX3_following_118 : decode cX3_following 118 = .ok (.bipush 6, 2) := by decide +kernel
theorem dX3_following_120 : decode cX3_following 120 = .ok (.if_icmp .ne 7, 3) := by decide +kernel
theorem dX3_following_123 : decode cX3_following 123 = .ok (.iconst 5, 1) := by decide +kernel
theorem dX3_following_124 : decode cX3_following 124 = .ok (.goto 4, 3) := by decide +kernel
theorem dX3_following_127 : decode cX3_following 127 = .ok (.iconst (-1), 1) := by decide +kernel
theorem dX3_following_128 : decode cX3_following 128 = .ok (.ireturn, 1) := by decide +kernel
theorem dX3_following_129 : decode cX3_following 129 = .ok (.iload_n 1, 1) := by decide +kernel
theorem dX3_following_130 : decode cX3_following 130 = .ok (.iconst 2, 1) := by decide +kernel
theorem dX3_following_131 : decode cX3_following 131 = .ok (.if_icmp .eq 8, 3) := by decide +kernel
theorem dX3_following_134 : decode cX3_following 134 = .ok (.iload_n 1, 1) := by decide +kernel
theorem dX3_following_135 : decode cX3_following 135 = .ok (.iconst 3, 1) := by decide +kernel
theorem dX3_following_136 : decode cX3_following 136 = .ok (.if_icmp .ne 8, 3) := by decide +kernel
theorem dX3_following_139 : decode cX3_following 139 = .ok (.bipush 6, 2) := by decide +kernel
theorem dX3_following_141 : decode cX3_following 141 = .ok (.goto 14, 3) := by decide +kernel
theorem dX3_following_144 : decode cX3_following 144 = .ok (.iload_n 1, 1) := by decide +kernel
theorem dX3_following_145 : decode cX3_following 145 = .ok (.bipush 10, 2) := by decide +kernel
theorem dX3_following_147 : decode cX3_following 147 = .ok (.if_icmp .ne 7, 3) := by decide +kernel
theorem dX3_following_150 : decode cX3_following 150 = .ok (.iconst 5, 1) := by decide +kernel
theorem dX3_following_151 : decode cX3_following 151 = .ok (.goto 4, 3) := by decide +kernel
theorem dX3_following_154 : decode cX3_following 154 = .ok (.iconst (-1), 1) := by decide +kernel
theorem dX3_following_155 : decode cX3_following 155 = .ok (.ireturn, 1) := by decide +kernel
theorem dX3_following_156 : decode cX3_following 156 = .ok (.aload_n 0, 1) := by decide +kernel
theorem dX3_following_157 : decode cX3_following 157 = .ok (.iload_n 1, 1) := by decide +kernel
theorem dX3_following_158 : decode cX3_following 158 = .ok (.invokevirtual 80, 3) := by decide +kernel
theorem dX3_following_161 : decode cX3_following 161 = .ok (.ireturn, 1) := by decide +kernel
theorem dX3_followingUnit_0 : decode cX3_followingUnit 0 = .ok (.iload_n 1, 1) := by decide +kernel
theorem dX3_followingUnit_1 : decode cX3_followingUnit 1 = .ok (.bipush 9, 2) := by decide +kernel
theorem dX3_followingUnit_3 : decode cX3_followingUnit 3 = .ok (.if_icmp .ne 5, 3) := by decide +kernel
theorem dX3_followingUnit_6 : decode cX3_followingUnit 6 = .ok (.iconst 5, 1) := by decide +kernel
theorem dX3_followingUnit_7 : decode cX3_followingUnit 7 = .ok (.ireturn, 1) := by decide +kernel
theorem dX3_followingUnit_8 : decode cX3_followingUnit 8 = .ok (.aload_n 0, 1) := by decide +kernel
theorem dX3_followingUnit_9 : decode cX3_followingUnit 9 = .ok (.getfield 73, 3) := by decide +kernel
theorem dX3_followingUnit_12 : decode cX3_followingUnit 12 = .ok (.ifCond .le 16, 3) := by decide +kernel
theorem dX3_followingUnit_15 : decode cX3_followingUnit 15 = .ok (.iload_n 1, 1) := by decide +kernel
theorem dX3_followingUnit_16 : decode cX3_followingUnit 16 = .ok (.bipush 11, 2) := by decide +kernel
theorem dX3_followingUnit_18 : decode cX3_followingUnit 18 = .ok (.if_icmp .ne 8, 3) := by decide +kernel
theorem dX3_followingUnit_21 : decode cX3_followingUnit 21 = .ok (.bipush 6, 2) := by decide +kernel
theorem dX3_followingUnit_23 : decode cX3_followingUnit 23 = .ok (.goto 4, 3) := by decide +kernel
theorem dX3_followingUnit_26 : decode cX3_followingUnit 26 = .ok (.iconst (-1), 1) := by decide +kernel
theorem dX3_followingUnit_27 : decode cX3_followingUnit 27 = .ok (.ireturn, 1) := by decide +kernel
theorem dX3_followingUnit_28 : decode cX3_followingUnit 28 = .ok (.aload_n 0, 1) := by decide +kernel
theorem dX3_followingUnit_29 : decode cX3_followingUnit 29 = .ok (.getfield 76, 3) := by decide +kernel
theorem dX3_followingUnit_32 : decode cX3_followingUnit 32 = .ok (.ifCond .ne 15, 3) := by decide +kernel
theorem dX3_followingUnit_35 : decode cX3_followingUnit 35 = .ok (.iload_n 1, 1) := by decide +kernel
theorem dX3_followingUnit_36 : decode cX3_followingUnit 36 = .ok (.bipush 8, 2) := by decide +kernel
theorem dX3_followingUnit_38 : decode cX3_followingUnit 38 = .ok (.if_icmp .ne 7, 3) := by decide +kernel
theorem dX3_followingUnit_41 : decode cX3_followingUnit 41 = .ok (.iconst 5, 1) := by decide +kernel
theorem dX3_followingUnit_42 : decode cX3_followingUnit 42 = .ok (.goto 4, 3) := by decide +kernel
theorem dX3_followingUnit_45 : decode cX3_followingUnit 45 = .ok (.iconst (-1), 1) := by decide +kernel
theorem dX3_followingUnit_46 : decode cX3_followingUnit 46 = .ok (.ireturn, 1) := by decide +kernel
theorem dX3_followingUnit_47 : decode cX3_followingUnit 47 = .ok (.iload_n 1, 1) := by decide +kernel
theorem dX3_followingUnit_48 : decode cX3_followingUnit 48 = .ok (.bipush 7, 2) := by decide +kernel
theorem dX3_followingUnit_50 : decode cX3_followingUnit 50 = .ok (.if_icmp .ne 7, 3) := by decide +kernel
theorem dX3_followingUnit_53 : decode cX3_followingUnit 53 = .ok (.iconst 5, 1) := by decide +kernel
theorem dX3_followingUnit_54 : decode cX3_followingUnit 54 = .ok (.goto 14, 3) := by decide +kernel
theorem dX3_followingUnit_57 : decode cX3_followingUnit 57 = .ok (.iload_n 1, 1) := by decide +kernel
theorem dX3_followingUnit_58 : decode cX3_followingUnit 58 = .ok (.bipush 12, 2) := by decide +kernel
theorem dX3_followingUnit_60 : decode cX3_followingUnit 60 = .ok (.if_icmp .ne 7, 3) := by decide +kernel
theorem dX3_followingUnit_63 : decode cX3_followingUnit 63 = .ok (.iconst 0, 1) := by decide +kernel
theorem dX3_followingUnit_64 : decode cX3_followingUnit 64 = .ok (.goto 4, 3) := by decide +kernel
theorem dX3_followingUnit_67 : decode cX3_followingUnit 67 = .ok (.iconst (-1), 1) := by decide +kernel
theorem dX3_followingUnit_68 : decode cX3_followingUnit 68 = .ok (.ireturn, 1) := by decide +kernel
theorem dX3_isOverfull_0 : decode cX3_isOverfull 0 = .ok (.aload_n 0, 1) := by decide +kernel
theorem dX3_isOverfull_1 : decode cX3_isOverfull 1 = .ok (.getfield 61, 3) := by decide +kernel
theorem dX3_isOverfull_4 : decode cX3_isOverfull 4 = .ok (.ifCond .ne 15, 3) := by decide +kernel
theorem dX3_isOverfull_7 : decode cX3_isOverfull 7 = .ok (.aload_n 0, 1) := by decide +kernel
theorem dX3_isOverfull_8 : decode cX3_isOverfull 8 = .ok (.getfield 18, 3) := by decide +kernel
theorem dX3_isOverfull_11 : decode cX3_isOverfull 11 = .ok (.getfield 83, 3) := by decide +kernel
theorem dX3_isOverfull_14 : decode cX3_isOverfull 14 = .ok (.bipush 20, 2) := by decide +kernel
theorem dX3_isOverfull_16 : decode cX3_isOverfull 16 = .ok (.if_icmp .ge 24, 3) := by decide +kernel
theorem dX3_isOverfull_19 : decode cX3_isOverfull 19 = .ok (.aload_n 0, 1) := by decide +kernel
theorem dX3_isOverfull_20 : decode cX3_isOverfull 20 = .ok (.getfield 31, 3) := by decide +kernel
theorem dX3_isOverfull_23 : decode cX3_isOverfull 23 = .ok (.getfield 41, 3) := by decide +kernel
theorem dX3_isOverfull_26 : decode cX3_isOverfull 26 = .ok (.bipush 10, 2) := by decide +kernel
theorem dX3_isOverfull_28 : decode cX3_isOverfull 28 = .ok (.if_icmp .ne 16, 3) := by decide +kernel
theorem dX3_isOverfull_31 : decode cX3_isOverfull 31 = .ok (.aload_n 0, 1) := by decide +kernel
theorem dX3_isOverfull_32 : decode cX3_isOverfull 32 = .ok (.getfield 73, 3) := by decide +kernel
theorem dX3_isOverfull_35 : decode cX3_isOverfull 35 = .ok (.bipush 6, 2) := by decide +kernel
theorem dX3_isOverfull_37 : decode cX3_isOverfull 37 = .ok (.if_icmp .lt 7, 3) := by decide +kernel
theorem dX3_isOverfull_40 : decode cX3_isOverfull 40 = .ok (.iconst 1, 1) := by decide +kernel
theorem dX3_isOverfull_41 : decode cX3_isOverfull 41 = .ok (.goto 4, 3) := by decide +kernel
theorem dX3_isOverfull_44 : decode cX3_isOverfull 44 = .ok (.iconst 0, 1) := by decide +kernel
theorem dX3_isOverfull_45 : decode cX3_isOverfull 45 = .ok (.ireturn, 1) := by decide +kernel
theorem dX3_take_0 : decode cX3_take 0 = .ok (.aload_n 0, 1) := by decide +kernel
theorem dX3_take_1 : decode cX3_take 1 = .ok (.getfield 61, 3) := by decide +kernel
theorem dX3_take_4 : decode cX3_take 4 = .ok (.tableswitch 101 0 6 #[44, 70, 101, 79, 101, 87, 94], 44) := by decide +kernel
theorem dX3_take_48 : decode cX3_take 48 = .ok (.aload_n 0, 1) := by decide +kernel
theorem dX3_take_49 : decode cX3_take 49 = .ok (.getfield 18, 3) := by decide +kernel
theorem dX3_take_52 : decode cX3_take 52 = .ok (.aload_n 0, 1) := by decide +kernel
theorem dX3_take_53 : decode cX3_take 53 = .ok (.getfield 31, 3) := by decide +kernel
theorem dX3_take_56 : decode cX3_take 56 = .ok (.getfield 41, 3) := by decide +kernel
theorem dX3_take_59 : decode cX3_take 59 = .ok (.iconst 5, 1) := by decide +kernel
theorem dX3_take_60 : decode cX3_take 60 = .ok (.if_icmp .ne 7, 3) := by decide +kernel
theorem dX3_take_63 : decode cX3_take 63 = .ok (.iconst 1, 1) := by decide +kernel
theorem dX3_take_64 : decode cX3_take 64 = .ok (.goto 4, 3) := by decide +kernel
theorem dX3_take_67 : decode cX3_take 67 = .ok (.iconst 0, 1) := by decide +kernel
theorem dX3_take_68 : decode cX3_take 68 = .ok (.invokevirtual 86, 3) := by decide +kernel
theorem dX3_take_71 : decode cX3_take 71 = .ok (.goto 39, 3) := by decide +kernel
theorem dX3_take_74 : decode cX3_take 74 = .ok (.aload_n 0, 1) := by decide +kernel
theorem dX3_take_75 : decode cX3_take 75 = .ok (.bipush 6, 2) := by decide +kernel
theorem dX3_take_77 : decode cX3_take 77 = .ok (.invokevirtual 90, 3) := by decide +kernel
theorem dX3_take_80 : decode cX3_take 80 = .ok (.goto 30, 3) := by decide +kernel
theorem dX3_take_83 : decode cX3_take 83 = .ok (.aload_n 0, 1) := by decide +kernel
theorem dX3_take_84 : decode cX3_take 84 = .ok (.iconst 4, 1) := by decide +kernel
theorem dX3_take_85 : decode cX3_take 85 = .ok (.invokevirtual 90, 3) := by decide +kernel
theorem dX3_take_88 : decode cX3_take 88 = .ok (.goto 22, 3) := by decide +kernel
theorem dX3_take_91 : decode cX3_take 91 = .ok (.aload_n 0, 1) := by decide +kernel
theorem dX3_take_92 : decode cX3_take 92 = .ok (.invokevirtual 94, 3) := by decide +kernel
theorem dX3_take_95 : decode cX3_take 95 = .ok (.goto 15, 3) := by decide +kernel
theorem dX3_take_98 : decode cX3_take 98 = .ok (.aload_n 0, 1) := by decide +kernel
theorem dX3_take_99 : decode cX3_take 99 = .ok (.invokevirtual 97, 3) := by decide +kernel
theorem dX3_take_102 : decode cX3_take 102 = .ok (.goto 8, 3) := by decide +kernel
theorem dX3_take_105 : decode cX3_take 105 = .ok (.aload_n 0, 1) := by decide +kernel
theorem dX3_take_106 : decode cX3_take 106 = .ok (.iconst 0, 1) := by decide +kernel
theorem dX3_take_107 : decode cX3_take 107 = .ok (.putfield 76, 3) := by decide +kernel
theorem dX3_take_110 : decode cX3_take 110 = .ok (.return_, 1) := by decide +kernel
theorem dX3_takeNumber_0 : decode cX3_takeNumber 0 = .ok (.aload_n 0, 1) := by decide +kernel
theorem dX3_takeNumber_1 : decode cX3_takeNumber 1 = .ok (.getfield 31, 3) := by decide +kernel
theorem dX3_takeNumber_4 : decode cX3_takeNumber 4 = .ok (.getfield 100, 3) := by decide +kernel
theorem dX3_takeNumber_7 : decode cX3_takeNumber 7 = .ok (.iload_n 1, 1) := by decide +kernel
theorem dX3_takeNumber_8 : decode cX3_takeNumber 8 = .ok (.if_icmp .lt 22, 3) := by decide +kernel
theorem dX3_takeNumber_11 : decode cX3_takeNumber 11 = .ok (.aload_n 0, 1) := by decide +kernel
theorem dX3_takeNumber_12 : decode cX3_takeNumber 12 = .ok (.getfield 51, 3) := by decide +kernel
theorem dX3_takeNumber_15 : decode cX3_takeNumber 15 = .ok (.iconst (-1), 1) := by decide +kernel
theorem dX3_takeNumber_16 : decode cX3_takeNumber 16 = .ok (.if_icmp .ne 14, 3) := by decide +kernel
theorem dX3_takeNumber_19 : decode cX3_takeNumber 19 = .ok (.aload_n 0, 1) := by decide +kernel
theorem dX3_takeNumber_20 : decode cX3_takeNumber 20 = .ok (.aload_n 0, 1) := by decide +kernel
theorem dX3_takeNumber_21 : decode cX3_takeNumber 21 = .ok (.getfield 31, 3) := by decide +kernel
theorem dX3_takeNumber_24 : decode cX3_takeNumber 24 = .ok (.getfield 48, 3) := by decide +kernel
theorem dX3_takeNumber_27 : decode cX3_takeNumber 27 = .ok (.putfield 51, 3) := by decide +kernel
theorem dX3_takeNumber_30 : decode cX3_takeNumber 30 = .ok (.aload_n 0, 1) := by decide +kernel
theorem dX3_takeNumber_31 : decode cX3_takeNumber 31 = .ok (.getfield 18, 3) := by decide +kernel
theorem dX3_takeNumber_34 : decode cX3_takeNumber 34 = .ok (.aload_n 0, 1) := by decide +kernel
theorem dX3_takeNumber_35 : decode cX3_takeNumber 35 = .ok (.getfield 31, 3) := by decide +kernel
theorem dX3_takeNumber_38 : decode cX3_takeNumber 38 = .ok (.getfield 100, 3) := by decide +kernel
theorem dX3_takeNumber_41 : decode cX3_takeNumber 41 = .ok (.invokevirtual 103, 3) := by decide +kernel
theorem dX3_takeNumber_44 : decode cX3_takeNumber 44 = .ok (.return_, 1) := by decide +kernel
theorem dX3_takeUnit_0 : decode cX3_takeUnit 0 = .ok (.aload_n 0, 1) := by decide +kernel
theorem dX3_takeUnit_1 : decode cX3_takeUnit 1 = .ok (.getfield 31, 3) := by decide +kernel
theorem dX3_takeUnit_4 : decode cX3_takeUnit 4 = .ok (.getfield 41, 3) := by decide +kernel
theorem dX3_takeUnit_7 : decode cX3_takeUnit 7 = .ok (.bipush 10, 2) := by decide +kernel
theorem dX3_takeUnit_9 : decode cX3_takeUnit 9 = .ok (.if_icmp .ne 21, 3) := by decide +kernel
theorem dX3_takeUnit_12 : decode cX3_takeUnit 12 = .ok (.aload_n 0, 1) := by decide +kernel
theorem dX3_takeUnit_13 : decode cX3_takeUnit 13 = .ok (.dup, 1) := by decide +kernel
theorem dX3_takeUnit_14 : decode cX3_takeUnit 14 = .ok (.getfield 73, 3) := by decide +kernel
theorem dX3_takeUnit_17 : decode cX3_takeUnit 17 = .ok (.iconst 1, 1) := by decide +kernel
theorem dX3_takeUnit_18 : decode cX3_takeUnit 18 = .ok (.iadd, 1) := by decide +kernel
theorem dX3_takeUnit_19 : decode cX3_takeUnit 19 = .ok (.putfield 73, 3) := by decide +kernel
theorem dX3_takeUnit_22 : decode cX3_takeUnit 22 = .ok (.aload_n 0, 1) := by decide +kernel
theorem dX3_takeUnit_23 : decode cX3_takeUnit 23 = .ok (.iconst 0, 1) := by decide +kernel
theorem dX3_takeUnit_24 : decode cX3_takeUnit 24 = .ok (.invokevirtual 106, 3) := by decide +kernel
theorem dX3_takeUnit_27 : decode cX3_takeUnit 27 = .ok (.goto 43, 3) := by decide +kernel
theorem dX3_takeUnit_30 : decode cX3_takeUnit 30 = .ok (.aload_n 0, 1) := by decide +kernel
theorem dX3_takeUnit_31 : decode cX3_takeUnit 31 = .ok (.getfield 18, 3) := by decide +kernel
theorem dX3_takeUnit_34 : decode cX3_takeUnit 34 = .ok (.aload_n 0, 1) := by decide +kernel
theorem dX3_takeUnit_35 : decode cX3_takeUnit 35 = .ok (.getfield 31, 3) := by decide +kernel
theorem dX3_takeUnit_38 : decode cX3_takeUnit 38 = .ok (.getfield 41, 3) := by decide +kernel
theorem dX3_takeUnit_41 : decode cX3_takeUnit 41 = .ok (.iconst 3, 1) := by decide +kernel
theorem dX3_takeUnit_42 : decode cX3_takeUnit 42 = .ok (.if_icmp .ne 18, 3) := by decide +kernel
theorem dX3_takeUnit_45 : decode cX3_takeUnit 45 = .ok (.bipush 16, 2) := by decide +kernel
theorem dX3_takeUnit_47 : decode cX3_takeUnit 47 = .ok (.aload_n 0, 1) := by decide +kernel
theorem dX3_takeUnit_48 : decode cX3_takeUnit 48 = .ok (.getfield 31, 3) := by decide +kernel
theorem dX3_takeUnit_51 : decode cX3_takeUnit 51 = .ok (.getfield 100, 3) := by decide +kernel
theorem dX3_takeUnit_54 : decode cX3_takeUnit 54 = .ok (.iadd, 1) := by decide +kernel
theorem dX3_takeUnit_55 : decode cX3_takeUnit 55 = .ok (.iconst (-1), 1) := by decide +kernel
theorem dX3_takeUnit_56 : decode cX3_takeUnit 56 = .ok (.ixor, 1) := by decide +kernel
theorem dX3_takeUnit_57 : decode cX3_takeUnit 57 = .ok (.goto 10, 3) := by decide +kernel
theorem dX3_takeUnit_60 : decode cX3_takeUnit 60 = .ok (.aload_n 0, 1) := by decide +kernel
theorem dX3_takeUnit_61 : decode cX3_takeUnit 61 = .ok (.getfield 31, 3) := by decide +kernel
theorem dX3_takeUnit_64 : decode cX3_takeUnit 64 = .ok (.getfield 100, 3) := by decide +kernel
theorem dX3_takeUnit_67 : decode cX3_takeUnit 67 = .ok (.invokevirtual 109, 3) := by decide +kernel
theorem dX3_takeUnit_70 : decode cX3_takeUnit 70 = .ok (.return_, 1) := by decide +kernel
theorem dX3_takeBehindUnit_0 : decode cX3_takeBehindUnit 0 = .ok (.aload_n 0, 1) := by decide +kernel
theorem dX3_takeBehindUnit_1 : decode cX3_takeBehindUnit 1 = .ok (.getfield 31, 3) := by decide +kernel
theorem dX3_takeBehindUnit_4 : decode cX3_takeBehindUnit 4 = .ok (.getfield 41, 3) := by decide +kernel
theorem dX3_takeBehindUnit_7 : decode cX3_takeBehindUnit 7 = .ok (.lookupswitch 65 #[(11, 25), (12, 57)], 25) := by decide +kernel
theorem dX3_takeBehindUnit_32 : decode cX3_takeBehindUnit 32 = .ok (.aload_n 0, 1) := by decide +kernel
theorem dX3_takeBehindUnit_33 : decode cX3_takeBehindUnit 33 = .ok (.iconst 1, 1) := by decide +kernel
theorem dX3_takeBehindUnit_34 : decode cX3_takeBehindUnit 34 = .ok (.invokevirtual 112, 3) := by decide +kernel
theorem dX3_takeBehindUnit_37 : decode cX3_takeBehindUnit 37 = .ok (.aload_n 0, 1) := by decide +kernel
theorem dX3_takeBehindUnit_38 : decode cX3_takeBehindUnit 38 = .ok (.iconst 0, 1) := by decide +kernel
theorem dX3_takeBehindUnit_39 : decode cX3_takeBehindUnit 39 = .ok (.aload_n 0, 1) := by decide +kernel
theorem dX3_takeBehindUnit_40 : decode cX3_takeBehindUnit 40 = .ok (.getfield 70, 3) := by decide +kernel
theorem dX3_takeBehindUnit_43 : decode cX3_takeBehindUnit 43 = .ok (.iconst 1, 1) := by decide +kernel
theorem dX3_takeBehindUnit_44 : decode cX3_takeBehindUnit 44 = .ok (.isub, 1) := by decide +kernel
theorem dX3_takeBehindUnit_45 : decode cX3_takeBehindUnit 45 = .ok (.invokestatic 115, 3) := by decide +kernel
theorem dX3_takeBehindUnit_48 : decode cX3_takeBehindUnit 48 = .ok (.putfield 70, 3) := by decide +kernel
theorem dX3_takeBehindUnit_51 : decode cX3_takeBehindUnit 51 = .ok (.aload_n 0, 1) := by decide +kernel
theorem dX3_takeBehindUnit_52 : decode cX3_takeBehindUnit 52 = .ok (.dup, 1) := by decide +kernel
theorem dX3_takeBehindUnit_53 : decode cX3_takeBehindUnit 53 = .ok (.getfield 73, 3) := by decide +kernel
theorem dX3_takeBehindUnit_56 : decode cX3_takeBehindUnit 56 = .ok (.iconst 1, 1) := by decide +kernel
theorem dX3_takeBehindUnit_57 : decode cX3_takeBehindUnit 57 = .ok (.isub, 1) := by decide +kernel
theorem dX3_takeBehindUnit_58 : decode cX3_takeBehindUnit 58 = .ok (.putfield 73, 3) := by decide +kernel
theorem dX3_takeBehindUnit_61 : decode cX3_takeBehindUnit 61 = .ok (.goto 77, 3) := by decide +kernel
theorem dX3_takeBehindUnit_64 : decode cX3_takeBehindUnit 64 = .ok (.aload_n 0, 1) := by decide +kernel
theorem dX3_takeBehindUnit_65 : decode cX3_takeBehindUnit 65 = .ok (.iconst 1, 1) := by decide +kernel
theorem dX3_takeBehindUnit_66 : decode cX3_takeBehindUnit 66 = .ok (.invokevirtual 112, 3) := by decide +kernel
theorem dX3_takeBehindUnit_69 : decode cX3_takeBehindUnit 69 = .ok (.goto 69, 3) := by decide +kernel
theorem dX3_takeBehindUnit_72 : decode cX3_takeBehindUnit 72 = .ok (.aload_n 0, 1) := by decide +kernel
theorem dX3_takeBehindUnit_73 : decode cX3_takeBehindUnit 73 = .ok (.getstatic 121, 3) := by decide +kernel
theorem dX3_takeBehindUnit_76 : decode cX3_takeBehindUnit 76 = .ok (.aload_n 0, 1) := by decide +kernel
theorem dX3_takeBehindUnit_77 : decode cX3_takeBehindUnit 77 = .ok (.getfield 31, 3) := by decide +kernel
theorem dX3_takeBehindUnit_80 : decode cX3_takeBehindUnit 80 = .ok (.getfield 100, 3) := by decide +kernel
theorem dX3_takeBehindUnit_83 : decode cX3_takeBehindUnit 83 = .ok (.iaload, 1) := by decide +kernel
theorem dX3_takeBehindUnit_84 : decode cX3_takeBehindUnit 84 = .ok (.invokevirtual 112, 3) := by decide +kernel
theorem dX3_takeBehindUnit_87 : decode cX3_takeBehindUnit 87 = .ok (.aload_n 0, 1) := by decide +kernel
theorem dX3_takeBehindUnit_88 : decode cX3_takeBehindUnit 88 = .ok (.aload_n 0, 1) := by decide +kernel
theorem dX3_takeBehindUnit_89 : decode cX3_takeBehindUnit 89 = .ok (.getfield 31, 3) := by decide +kernel
theorem dX3_takeBehindUnit_92 : decode cX3_takeBehindUnit 92 = .ok (.getfield 100, 3) := by decide +kernel
theorem dX3_takeBehindUnit_95 : decode cX3_takeBehindUnit 95 = .ok (.invokevirtual 106, 3) := by decide +kernel
theorem dX3_takeBehindUnit_98 : decode cX3_takeBehindUnit 98 = .ok (.aload_n 0, 1) := by decide +kernel
theorem dX3_takeBehindUnit_99 : decode cX3_takeBehindUnit 99 = .ok (.aload_n 0, 1) := by decide +kernel
theorem dX3_takeBehindUnit_100 : decode cX3_takeBehindUnit 100 = .ok (.getfield 31, 3) := by decide +kernel
theorem dX3_takeBehindUnit_103 : decode cX3_takeBehindUnit 103 = .ok (.getfield 41, 3) := by decide +kernel
theorem dX3_takeBehindUnit_106 : decode cX3_takeBehindUnit 106 = .ok (.bipush 8, 2) := by decide +kernel
theorem dX3_takeBehindUnit_108 : decode cX3_takeBehindUnit 108 = .ok (.if_icmp .eq 22, 3) := by decide +kernel
theorem dX3_takeBehindUnit_111 : decode cX3_takeBehindUnit 111 = .ok (.aload_n 0, 1) := by decide +kernel
theorem dX3_takeBehindUnit_112 : decode cX3_takeBehindUnit 112 = .ok (.getfield 76, 3) := by decide +kernel
theorem dX3_takeBehindUnit_115 : decode cX3_takeBehindUnit 115 = .ok (.ifCond .eq 19, 3) := by decide +kernel
theorem dX3_takeBehindUnit_118 : decode cX3_takeBehindUnit 118 = .ok (.aload_n 0, 1) := by decide +kernel
theorem dX3_takeBehindUnit_119 : decode cX3_takeBehindUnit 119 = .ok (.getfield 31, 3) := by decide +kernel
theorem dX3_takeBehindUnit_122 : decode cX3_takeBehindUnit 122 = .ok (.getfield 41, 3) := by decide +kernel
theorem dX3_takeBehindUnit_125 : decode cX3_takeBehindUnit 125 = .ok (.bipush 9, 2) := by decide +kernel
theorem dX3_takeBehindUnit_127 : decode cX3_takeBehindUnit 127 = .ok (.if_icmp .ne 7, 3) := by decide +kernel
theorem dX3_takeBehindUnit_130 : decode cX3_takeBehindUnit 130 = .ok (.iconst 1, 1) := by decide +kernel
theorem dX3_takeBehindUnit_131 : decode cX3_takeBehindUnit 131 = .ok (.goto 4, 3) := by decide +kernel
theorem dX3_takeBehindUnit_134 : decode cX3_takeBehindUnit 134 = .ok (.iconst 0, 1) := by decide +kernel
theorem dX3_takeBehindUnit_135 : decode cX3_takeBehindUnit 135 = .ok (.putfield 76, 3) := by decide +kernel
theorem dX3_takeBehindUnit_138 : decode cX3_takeBehindUnit 138 = .ok (.return_, 1) := by decide +kernel
theorem dX3_emitDownTo_0 : decode cX3_emitDownTo 0 = .ok (.aload_n 0, 1) := by decide +kernel
theorem dX3_emitDownTo_1 : decode cX3_emitDownTo 1 = .ok (.getfield 70, 3) := by decide +kernel
theorem dX3_emitDownTo_4 : decode cX3_emitDownTo 4 = .ok (.ifCond .le 53, 3) := by decide +kernel
theorem dX3_emitDownTo_7 : decode cX3_emitDownTo 7 = .ok (.getstatic 121, 3) := by decide +kernel
theorem dX3_emitDownTo_10 : decode cX3_emitDownTo 10 = .ok (.aload_n 0, 1) := by decide +kernel
theorem dX3_emitDownTo_11 : decode cX3_emitDownTo 11 = .ok (.getfield 9, 3) := by decide +kernel
theorem dX3_emitDownTo_14 : decode cX3_emitDownTo 14 = .ok (.aload_n 0, 1) := by decide +kernel
theorem dX3_emitDownTo_15 : decode cX3_emitDownTo 15 = .ok (.getfield 70, 3) := by decide +kernel
theorem dX3_emitDownTo_18 : decode cX3_emitDownTo 18 = .ok (.iconst 1, 1) := by decide +kernel
theorem dX3_emitDownTo_19 : decode cX3_emitDownTo 19 = .ok (.isub, 1) := by decide +kernel
theorem dX3_emitDownTo_20 : decode cX3_emitDownTo 20 = .ok (.iaload, 1) := by decide +kernel
theorem dX3_emitDownTo_21 : decode cX3_emitDownTo 21 = .ok (.iaload, 1) := by decide +kernel
theorem dX3_emitDownTo_22 : decode cX3_emitDownTo 22 = .ok (.iload_n 1, 1) := by decide +kernel
theorem dX3_emitDownTo_23 : decode cX3_emitDownTo 23 = .ok (.if_icmp .lt 34, 3) := by decide +kernel
theorem dX3_emitDownTo_26 : decode cX3_emitDownTo 26 = .ok (.aload_n 0, 1) := by decide +kernel
theorem dX3_emitDownTo_27 : decode cX3_emitDownTo 27 = .ok (.dup, 1) := by decide +kernel
theorem dX3_emitDownTo_28 : decode cX3_emitDownTo 28 = .ok (.getfield 70, 3) := by decide +kernel
theorem dX3_emitDownTo_31 : decode cX3_emitDownTo 31 = .ok (.iconst 1, 1) := by decide +kernel
theorem dX3_emitDownTo_32 : decode cX3_emitDownTo 32 = .ok (.isub, 1) := by decide +kernel
theorem dX3_emitDownTo_33 : decode cX3_emitDownTo 33 = .ok (.putfield 70, 3) := by decide +kernel
theorem dX3_emitDownTo_36 : decode cX3_emitDownTo 36 = .ok (.aload_n 0, 1) := by decide +kernel
theorem dX3_emitDownTo_37 : decode cX3_emitDownTo 37 = .ok (.getfield 18, 3) := by decide +kernel
theorem dX3_emitDownTo_40 : decode cX3_emitDownTo 40 = .ok (.aload_n 0, 1) := by decide +kernel
theorem dX3_emitDownTo_41 : decode cX3_emitDownTo 41 = .ok (.getfield 9, 3) := by decide +kernel
theorem dX3_emitDownTo_44 : decode cX3_emitDownTo 44 = .ok (.aload_n 0, 1) := by decide +kernel
theorem dX3_emitDownTo_45 : decode cX3_emitDownTo 45 = .ok (.getfield 70, 3) := by decide +kernel
theorem dX3_emitDownTo_48 : decode cX3_emitDownTo 48 = .ok (.iaload, 1) := by decide +kernel
theorem dX3_emitDownTo_49 : decode cX3_emitDownTo 49 = .ok (.iconst (-1), 1) := by decide +kernel
theorem dX3_emitDownTo_50 : decode cX3_emitDownTo 50 = .ok (.ixor, 1) := by decide +kernel
theorem dX3_emitDownTo_51 : decode cX3_emitDownTo 51 = .ok (.invokevirtual 109, 3) := by decide +kernel
theorem dX3_emitDownTo_54 : decode cX3_emitDownTo 54 = .ok (.goto (-54), 3) := by decide +kernel
theorem dX3_emitDownTo_57 : decode cX3_emitDownTo 57 = .ok (.return_, 1) := by decide +kernel
theorem dX3_push_0 : decode cX3_push 0 = .ok (.aload_n 0, 1) := by decide +kernel
theorem dX3_push_1 : decode cX3_push 1 = .ok (.getfield 70, 3) := by decide +kernel
theorem dX3_push_4 : decode cX3_push 4 = .ok (.bipush 32, 2) := by decide +kernel
theorem dX3_push_6 : decode cX3_push 6 = .ok (.if_icmp .ge 23, 3) := by decide +kernel
theorem dX3_push_9 : decode cX3_push 9 = .ok (.aload_n 0, 1) := by decide +kernel
theorem dX3_push_10 : decode cX3_push 10 = .ok (.getfield 9, 3) := by decide +kernel
theorem dX3_push_13 : decode cX3_push 13 = .ok (.aload_n 0, 1) := by decide +kernel
theorem dX3_push_14 : decode cX3_push 14 = .ok (.getfield 70, 3) := by decide +kernel
theorem dX3_push_17 : decode cX3_push 17 = .ok (.iload_n 1, 1) := by decide +kernel
theorem dX3_push_18 : decode cX3_push 18 = .ok (.iastore, 1) := by decide +kernel
theorem dX3_push_19 : decode cX3_push 19 = .ok (.aload_n 0, 1) := by decide +kernel
theorem dX3_push_20 : decode cX3_push 20 = .ok (.dup, 1) := by decide +kernel
theorem dX3_push_21 : decode cX3_push 21 = .ok (.getfield 70, 3) := by decide +kernel
theorem dX3_push_24 : decode cX3_push 24 = .ok (.iconst 1, 1) := by decide +kernel
theorem dX3_push_25 : decode cX3_push 25 = .ok (.iadd, 1) := by decide +kernel
theorem dX3_push_26 : decode cX3_push 26 = .ok (.putfield 70, 3) := by decide +kernel
theorem dX3_push_29 : decode cX3_push 29 = .ok (.return_, 1) := by decide +kernel
theorem dX4_init_0 : decode cX4_init 0 = .ok (.aload_n 0, 1) := by decide +kernel
theorem dX4_init_1 : decode cX4_init 1 = .ok (.invokespecial 3, 3) := by decide +kernel
theorem dX4_init_4 : decode cX4_init 4 = .ok (.aload_n 0, 1) := by decide +kernel
theorem dX4_init_5 : decode cX4_init 5 = .ok (.bipush 20, 2) := by decide +kernel
theorem dX4_init_7 : decode cX4_init 7 = .ok (.newarray .boolean, 2) := by decide +kernel
theorem dX4_init_9 : decode cX4_init 9 = .ok (.putfield 9, 3) := by decide +kernel
theorem dX4_init_12 : decode cX4_init 12 = .ok (.aload_n 0, 1) := by decide +kernel
theorem dX4_init_13 : decode cX4_init 13 = .ok (.bipush 20, 2) := by decide +kernel
theorem dX4_init_15 : decode cX4_init 15 = .ok (.newarray .int, 2) := by decide +kernel
theorem dX4_init_17 : decode cX4_init 17 = .ok (.putfield 15, 3) := by decide +kernel
theorem dX4_init_20 : decode cX4_init 20 = .ok (.aload_n 0, 1) := by decide +kernel
theorem dX4_init_21 : decode cX4_init 21 = .ok (.bipush 20, 2) := by decide +kernel
theorem dX4_init_23 : decode cX4_init 23 = .ok (.newarray .int, 2) := by decide +kernel
theorem dX4_init_25 : decode cX4_init 25 = .ok (.putfield 19, 3) := by decide +kernel
theorem dX4_init_28 : decode cX4_init 28 = .ok (.aload_n 0, 1) := by decide +kernel
theorem dX4_init_29 : decode cX4_init 29 = .ok (.bipush 20, 2) := by decide +kernel
theorem dX4_init_31 : decode cX4_init 31 = .ok (.newarray .int, 2) := by decide +kernel
theorem dX4_init_33 : decode cX4_init 33 = .ok (.putfield 22, 3) := by decide +kernel
theorem dX4_init_36 : decode cX4_init 36 = .ok (.aload_n 0, 1) := by decide +kernel
theorem dX4_init_37 : decode cX4_init 37 = .ok (.sipush 400, 3) := by decide +kernel
theorem dX4_init_40 : decode cX4_init 40 = .ok (.newarray .int, 2) := by decide +kernel
theorem dX4_init_42 : decode cX4_init 42 = .ok (.putfield 25, 3) := by decide +kernel
theorem dX4_init_45 : decode cX4_init 45 = .ok (.aload_n 0, 1) := by decide +kernel
theorem dX4_init_46 : decode cX4_init 46 = .ok (.bipush 32, 2) := by decide +kernel
theorem dX4_init_48 : decode cX4_init 48 = .ok (.newarray .int, 2) := by decide +kernel
theorem dX4_init_50 : decode cX4_init 50 = .ok (.putfield 28, 3) := by decide +kernel
theorem dX4_init_53 : decode cX4_init 53 = .ok (.return_, 1) := by decide +kernel
theorem dX4_clear_0 : decode cX4_clear 0 = .ok (.aload_n 0, 1) := by decide +kernel
theorem dX4_clear_1 : decode cX4_clear 1 = .ok (.iconst 0, 1) := by decide +kernel
theorem dX4_clear_2 : decode cX4_clear 2 = .ok (.putfield 31, 3) := by decide +kernel
theorem dX4_clear_5 : decode cX4_clear 5 = .ok (.aload_n 0, 1) := by decide +kernel
theorem dX4_clear_6 : decode cX4_clear 6 = .ok (.iconst 0, 1) := by decide +kernel
theorem dX4_clear_7 : decode cX4_clear 7 = .ok (.putfield 35, 3) := by decide +kernel
theorem dX4_clear_10 : decode cX4_clear 10 = .ok (.return_, 1) := by decide +kernel
theorem dX4_add_0 : decode cX4_add 0 = .ok (.aload_n 0, 1) := by decide +kernel
theorem dX4_add_1 : decode cX4_add 1 = .ok (.getfield 31, 3) := by decide +kernel
theorem dX4_add_4 : decode cX4_add 4 = .ok (.bipush 20, 2) := by decide +kernel
theorem dX4_add_6 : decode cX4_add 6 = .ok (.if_icmp .ge 49, 3) := by decide +kernel
theorem dX4_add_9 : decode cX4_add 9 = .ok (.aload_n 0, 1) := by decide +kernel
theorem dX4_add_10 : decode cX4_add 10 = .ok (.getfield 9, 3) := by decide +kernel
theorem dX4_add_13 : decode cX4_add 13 = .ok (.aload_n 0, 1) := by decide +kernel
theorem dX4_add_14 : decode cX4_add 14 = .ok (.getfield 31, 3) := by decide +kernel
theorem dX4_add_17 : decode cX4_add 17 = .ok (.iload_n 1, 1) := by decide +kernel
theorem dX4_add_18 : decode cX4_add 18 = .ok (.bastore, 1) := by decide +kernel
theorem dX4_add_19 : decode cX4_add 19 = .ok (.aload_n 0, 1) := by decide +kernel
theorem dX4_add_20 : decode cX4_add 20 = .ok (.getfield 19, 3) := by decide +kernel
theorem dX4_add_23 : decode cX4_add 23 = .ok (.aload_n 0, 1) := by decide +kernel
theorem dX4_add_24 : decode cX4_add 24 = .ok (.getfield 31, 3) := by decide +kernel
theorem dX4_add_27 : decode cX4_add 27 = .ok (.aload_n 0, 1) := by decide +kernel
theorem dX4_add_28 : decode cX4_add 28 = .ok (.getfield 35, 3) := by decide +kernel
theorem dX4_add_31 : decode cX4_add 31 = .ok (.iastore, 1) := by decide +kernel
theorem dX4_add_32 : decode cX4_add 32 = .ok (.aload_n 0, 1) := by decide +kernel
theorem dX4_add_33 : decode cX4_add 33 = .ok (.getfield 22, 3) := by decide +kernel
theorem dX4_add_36 : decode cX4_add 36 = .ok (.aload_n 0, 1) := by decide +kernel
theorem dX4_add_37 : decode cX4_add 37 = .ok (.getfield 31, 3) := by decide +kernel
theorem dX4_add_40 : decode cX4_add 40 = .ok (.aload_n 0, 1) := by decide +kernel
theorem dX4_add_41 : decode cX4_add 41 = .ok (.getfield 35, 3) := by decide +kernel
theorem dX4_add_44 : decode cX4_add 44 = .ok (.iastore, 1) := by decide +kernel
theorem dX4_add_45 : decode cX4_add 45 = .ok (.aload_n 0, 1) := by decide +kernel
theorem dX4_add_46 : decode cX4_add 46 = .ok (.dup, 1) := by decide +kernel
theorem dX4_add_47 : decode cX4_add 47 = .ok (.getfield 31, 3) := by decide +kernel
theorem dX4_add_50 : decode cX4_add 50 = .ok (.iconst 1, 1) := by decide +kernel
theorem dX4_add_51 : decode cX4_add 51 = .ok (.iadd, 1) := by decide +kernel
theorem dX4_add_52 : decode cX4_add 52 = .ok (.putfield 31, 3) := by decide +kernel
theorem dX4_add_55 : decode cX4_add 55 = .ok (.return_, 1) := by decide +kernel
theorem dX4_setNumber_0 : decode cX4_setNumber 0 = .ok (.aload_n 0, 1) := by decide +kernel
theorem dX4_setNumber_1 : decode cX4_setNumber 1 = .ok (.getfield 31, 3) := by decide +kernel
theorem dX4_setNumber_4 : decode cX4_setNumber 4 = .ok (.ifCond .le 15, 3) := by decide +kernel
theorem dX4_setNumber_7 : decode cX4_setNumber 7 = .ok (.aload_n 0, 1) := by decide +kernel
theorem dX4_setNumber_8 : decode cX4_setNumber 8 = .ok (.getfield 15, 3) := by decide +kernel
theorem dX4_setNumber_11 : decode cX4_setNumber 11 = .ok (.aload_n 0, 1) := by decide +kernel
theorem dX4_setNumber_12 : decode cX4_setNumber 12 = .ok (.getfield 31, 3) := by decide +kernel
theorem dX4_setNumber_15 : decode cX4_setNumber 15 = .ok (.iconst 1, 1) := by decide +kernel
theorem dX4_setNumber_16 : decode cX4_setNumber 16 = .ok (.isub, 1) := by decide +kernel
theorem dX4_setNumber_17 : decode cX4_setNumber 17 = .ok (.iload_n 1, 1) := by decide +kernel
theorem dX4_setNumber_18 : decode cX4_setNumber 18 = .ok (.iastore, 1) := by decide +kernel
theorem dX4_setNumber_19 : decode cX4_setNumber 19 = .ok (.return_, 1) := by decide +kernel
theorem dX4_emit_0 : decode cX4_emit 0 = .ok (.aload_n 0, 1) := by decide +kernel
theorem dX4_emit_1 : decode cX4_emit 1 = .ok (.getfield 31, 3) := by decide +kernel
theorem dX4_emit_4 : decode cX4_emit 4 = .ok (.ifCond .le 48, 3) := by decide +kernel
theorem dX4_emit_7 : decode cX4_emit 7 = .ok (.aload_n 0, 1) := by decide +kernel
theorem dX4_emit_8 : decode cX4_emit 8 = .ok (.getfield 35, 3) := by decide +kernel
theorem dX4_emit_11 : decode cX4_emit 11 = .ok (.sipush 400, 3) := by decide +kernel
theorem dX4_emit_14 : decode cX4_emit 14 = .ok (.if_icmp .ge 38, 3) := by decide +kernel
theorem dX4_emit_17 : decode cX4_emit 17 = .ok (.aload_n 0, 1) := by decide +kernel
theorem dX4_emit_18 : decode cX4_emit 18 = .ok (.getfield 25, 3) := by decide +kernel
theorem dX4_emit_21 : decode cX4_emit 21 = .ok (.aload_n 0, 1) := by decide +kernel
theorem dX4_emit_22 : decode cX4_emit 22 = .ok (.getfield 35, 3) := by decide +kernel
theorem dX4_emit_25 : decode cX4_emit 25 = .ok (.iload_n 1, 1) := by decide +kernel
theorem dX4_emit_26 : decode cX4_emit 26 = .ok (.iastore, 1) := by decide +kernel
theorem dX4_emit_27 : decode cX4_emit 27 = .ok (.aload_n 0, 1) := by decide +kernel
theorem dX4_emit_28 : decode cX4_emit 28 = .ok (.dup, 1) := by decide +kernel
theorem dX4_emit_29 : decode cX4_emit 29 = .ok (.getfield 35, 3) := by decide +kernel
theorem dX4_emit_32 : decode cX4_emit 32 = .ok (.iconst 1, 1) := by decide +kernel
theorem dX4_emit_33 : decode cX4_emit 33 = .ok (.iadd, 1) := by decide +kernel
theorem dX4_emit_34 : decode cX4_emit 34 = .ok (.putfield 35, 3) := by decide +kernel
theorem dX4_emit_37 : decode cX4_emit 37 = .ok (.aload_n 0, 1) := by decide +kernel
theorem dX4_emit_38 : decode cX4_emit 38 = .ok (.getfield 22, 3) := by decide +kernel
theorem dX4_emit_41 : decode cX4_emit 41 = .ok (.aload_n 0, 1) := by decide +kernel
theorem dX4_emit_42 : decode cX4_emit 42 = .ok (.getfield 31, 3) := by decide +kernel
theorem dX4_emit_45 : decode cX4_emit 45 = .ok (.iconst 1, 1) := by decide +kernel
theorem dX4_emit_46 : decode cX4_emit 46 = .ok (.isub, 1) := by decide +kernel
theorem dX4_emit_47 : decode cX4_emit 47 = .ok (.aload_n 0, 1) := by decide +kernel
theorem dX4_emit_48 : decode cX4_emit 48 = .ok (.getfield 35, 3) := by decide +kernel
theorem dX4_emit_51 : decode cX4_emit 51 = .ok (.iastore, 1) := by decide +kernel
theorem dX4_emit_52 : decode cX4_emit 52 = .ok (.return_, 1) := by decide +kernel
theorem dX4_choose_0 : decode cX4_choose 0 = .ok (.iconst (-1), 1) := by decide +kernel
theorem dX4_choose_1 : decode cX4_choose 1 = .ok (.istore_n 3, 1) := by decide +kernel
theorem dX4_choose_2 : decode cX4_choose 2 = .ok (.iconst 0, 1) := by decide +kernel
theorem dX4_choose_3 : decode cX4_choose 3 = .ok (.istore 4, 2) := by decide +kernel
theorem dX4_choose_5 : decode cX4_choose 5 = .ok (.iload 4, 2) := by decide +kernel
theorem dX4_choose_7 : decode cX4_choose 7 = .ok (.aload_n 0, 1) := by decide +kernel
theorem dX4_choose_8 : decode cX4_choose 8 = .ok (.getfield 31, 3) := by decide +kernel
theorem dX4_choose_11 : decode cX4_choose 11 = .ok (.if_icmp .ge 56, 3) := by decide +kernel
theorem dX4_choose_14 : decode cX4_choose 14 = .ok (.aload_n 0, 1) := by decide +kernel
theorem dX4_choose_15 : decode cX4_choose 15 = .ok (.getfield 9, 3) := by decide +kernel
theorem dX4_choose_18 : decode cX4_choose 18 = .ok (.iload 4, 2) := by decide +kernel
theorem dX4_choose_20 : decode cX4_choose 20 = .ok (.baload, 1) := by decide +kernel
theorem dX4_choose_21 : decode cX4_choose 21 = .ok (.ifCond .ne 40, 3) := by decide +kernel
theorem dX4_choose_24 : decode cX4_choose 24 = .ok (.aload_n 0, 1) := by decide +kernel
theorem dX4_choose_25 : decode cX4_choose 25 = .ok (.iload 4, 2) := by decide +kernel
theorem dX4_choose_27 : decode cX4_choose 27 = .ok (.aload_n 1, 1) := by decide +kernel
theorem dX4_choose_28 : decode cX4_choose 28 = .ok (.invokevirtual 38, 3) := by decide +kernel
theorem dX4_choose_31 : decode cX4_choose 31 = .ok (.ifCond .eq 30, 3) := by decide +kernel
theorem dX4_choose_34 : decode cX4_choose 34 = .ok (.iload_n 3, 1) := by decide +kernel
theorem dX4_choose_35 : decode cX4_choose 35 = .ok (.iconst (-1), 1) := by decide +kernel
theorem dX4_choose_36 : decode cX4_choose 36 = .ok (.if_icmp .eq 17, 3) := by decide +kernel
theorem dX4_choose_39 : decode cX4_choose 39 = .ok (.iload_n 3, 1) := by decide +kernel
theorem dX4_choose_40 : decode cX4_choose 40 = .ok (.aload_n 0, 1) := by decide +kernel
theorem dX4_choose_41 : decode cX4_choose 41 = .ok (.getfield 15, 3) := by decide +kernel
theorem dX4_choose_44 : decode cX4_choose 44 = .ok (.iload 4, 2) := by decide +kernel
theorem dX4_choose_46 : decode cX4_choose 46 = .ok (.iaload, 1) := by decide +kernel
theorem dX4_choose_47 : decode cX4_choose 47 = .ok (.if_icmp .eq 6, 3) := by decide +kernel
theorem dX4_choose_50 : decode cX4_choose 50 = .ok (.bipush (-2), 2) := by decide +kernel
theorem dX4_choose_52 : decode cX4_choose 52 = .ok (.ireturn, 1) := by decide +kernel
theorem dX4_choose_53 : decode cX4_choose 53 = .ok (.aload_n 0, 1) := by decide +kernel
theorem dX4_choose_54 : decode cX4_choose 54 = .ok (.getfield 15, 3) := by decide +kernel
theorem dX4_choose_57 : decode cX4_choose 57 = .ok (.iload 4, 2) := by decide +kernel
theorem dX4_choose_59 : decode cX4_choose 59 = .ok (.iaload, 1) := by decide +kernel
theorem dX4_choose_60 : decode cX4_choose 60 = .ok (.istore_n 3, 1) := by decide +kernel
theorem dX4_choose_61 : decode cX4_choose 61 = .ok (.iinc 4 1, 3) := by decide +kernel
theorem dX4_choose_64 : decode cX4_choose 64 = .ok (.goto (-59), 3) := by decide +kernel
theorem dX4_choose_67 : decode cX4_choose 67 = .ok (.iload_n 3, 1) := by decide +kernel
theorem dX4_choose_68 : decode cX4_choose 68 = .ok (.iload_n 2, 1) := by decide +kernel
theorem dX4_choose_69 : decode cX4_choose 69 = .ok (.if_icmp .ge 7, 3) := by decide +kernel
theorem dX4_choose_72 : decode cX4_choose 72 = .ok (.iload_n 3, 1) := by decide +kernel
theorem dX4_choose_73 : decode cX4_choose 73 = .ok (.goto 5, 3) := by decide +kernel
theorem dX4_choose_76 : decode cX4_choose 76 = .ok (.bipush (-2), 2) := by decide +kernel
theorem dX4_choose_78 : decode cX4_choose 78 = .ok (.ireturn, 1) := by decide +kernel
theorem dX4_kindsAhead_0 : decode cX4_kindsAhead 0 = .ok (.iconst 0, 1) := by decide +kernel
theorem dX4_kindsAhead_1 : decode cX4_kindsAhead 1 = .ok (.istore_n 2, 1) := by decide +kernel
theorem dX4_kindsAhead_2 : decode cX4_kindsAhead 2 = .ok (.iconst 0, 1) := by decide +kernel
theorem dX4_kindsAhead_3 : decode cX4_kindsAhead 3 = .ok (.istore_n 3, 1) := by decide +kernel
theorem dX4_kindsAhead_4 : decode cX4_kindsAhead 4 = .ok (.iload_n 3, 1) := by decide +kernel
theorem dX4_kindsAhead_5 : decode cX4_kindsAhead 5 = .ok (.aload_n 0, 1) := by decide +kernel
theorem dX4_kindsAhead_6 : decode cX4_kindsAhead 6 = .ok (.getfield 31, 3) := by decide +kernel
theorem dX4_kindsAhead_9 : decode cX4_kindsAhead 9 = .ok (.if_icmp .ge 38, 3) := by decide +kernel
theorem dX4_kindsAhead_12 : decode cX4_kindsAhead 12 = .ok (.aload_n 0, 1) := by decide +kernel
theorem dX4_kindsAhead_13 : decode cX4_kindsAhead 13 = .ok (.getfield 9, 3) := by decide +kernel
theorem dX4_kindsAhead_16 : decode cX4_kindsAhead 16 = .ok (.iload_n 3, 1) := by decide +kernel
theorem dX4_kindsAhead_17 : decode cX4_kindsAhead 17 = .ok (.baload, 1) := by decide +kernel
theorem dX4_kindsAhead_18 : decode cX4_kindsAhead 18 = .ok (.ifCond .eq 23, 3) := by decide +kernel
theorem dX4_kindsAhead_21 : decode cX4_kindsAhead 21 = .ok (.aload_n 0, 1) := by decide +kernel
theorem dX4_kindsAhead_22 : decode cX4_kindsAhead 22 = .ok (.iload_n 3, 1) := by decide +kernel
theorem dX4_kindsAhead_23 : decode cX4_kindsAhead 23 = .ok (.aload_n 1, 1) := by decide +kernel
theorem dX4_kindsAhead_24 : decode cX4_kindsAhead 24 = .ok (.invokevirtual 38, 3) := by decide +kernel
theorem dX4_kindsAhead_27 : decode cX4_kindsAhead 27 = .ok (.ifCond .eq 14, 3) := by decide +kernel
theorem dX4_kindsAhead_30 : decode cX4_kindsAhead 30 = .ok (.iload_n 2, 1) := by decide +kernel
theorem dX4_kindsAhead_31 : decode cX4_kindsAhead 31 = .ok (.iconst 1, 1) := by decide +kernel
theorem dX4_kindsAhead_32 : decode cX4_kindsAhead 32 = .ok (.aload_n 0, 1) := by decide +kernel
theorem dX4_kindsAhead_33 : decode cX4_kindsAhead 33 = .ok (.getfield 15, 3) := by decide +kernel
theorem dX4_kindsAhead_36 : decode cX4_kindsAhead 36 = .ok (.iload_n 3, 1) := by decide +kernel
theorem dX4_kindsAhead_37 : decode cX4_kindsAhead 37 = .ok (.iaload, 1) := by decide +kernel
theorem dX4_kindsAhead_38 : decode cX4_kindsAhead 38 = .ok (.ishl, 1) := by decide +kernel
theorem dX4_kindsAhead_39 : decode cX4_kindsAhead 39 = .ok (.ior, 1) := by decide +kernel
theorem dX4_kindsAhead_40 : decode cX4_kindsAhead 40 = .ok (.istore_n 2, 1) := by decide +kernel
theorem dX4_kindsAhead_41 : decode cX4_kindsAhead 41 = .ok (.iinc 3 1, 3) := by decide +kernel
theorem dX4_kindsAhead_44 : decode cX4_kindsAhead 44 = .ok (.goto (-40), 3) := by decide +kernel
theorem dX4_kindsAhead_47 : decode cX4_kindsAhead 47 = .ok (.iload_n 2, 1) := by decide +kernel
theorem dX4_kindsAhead_48 : decode cX4_kindsAhead 48 = .ok (.ireturn, 1) := by decide +kernel
theorem dX4_holds_0 : decode cX4_holds 0 = .ok (.aload_n 0, 1) := by decide +kernel
theorem dX4_holds_1 : decode cX4_holds 1 = .ok (.getfield 19, 3) := by decide +kernel
theorem dX4_holds_4 : decode cX4_holds 4 = .ok (.iload_n 1, 1) := by decide +kernel
theorem dX4_holds_5 : decode cX4_holds 5 = .ok (.iaload, 1) := by decide +kernel
theorem dX4_holds_6 : decode cX4_holds 6 = .ok (.aload_n 0, 1) := by decide +kernel
theorem dX4_holds_7 : decode cX4_holds 7 = .ok (.getfield 22, 3) := by decide +kernel
theorem dX4_holds_10 : decode cX4_holds 10 = .ok (.iload_n 1, 1) := by decide +kernel
theorem dX4_holds_11 : decode cX4_holds 11 = .ok (.iaload, 1) := by decide +kernel
theorem dX4_holds_12 : decode cX4_holds 12 = .ok (.if_icmp .ne 5, 3) := by decide +kernel
theorem dX4_holds_15 : decode cX4_holds 15 = .ok (.iconst 1, 1) := by decide +kernel
theorem dX4_holds_16 : decode cX4_holds 16 = .ok (.ireturn, 1) := by decide +kernel
theorem dX4_holds_17 : decode cX4_holds 17 = .ok (.iconst 0, 1) := by decide +kernel
theorem dX4_holds_18 : decode cX4_holds 18 = .ok (.istore_n 3, 1) := by decide +kernel
theorem dX4_holds_19 : decode cX4_holds 19 = .ok (.aload_n 0, 1) := by decide +kernel
theorem dX4_holds_20 : decode cX4_holds 20 = .ok (.getfield 19, 3) := by decide +kernel
theorem dX4_holds_23 : decode cX4_holds 23 = .ok (.iload_n 1, 1) := by decide +kernel
theorem dX4_holds_24 : decode cX4_holds 24 = .ok (.iaload, 1) := by decide +kernel
theorem dX4_holds_25 : decode cX4_holds 25 = .ok (.istore 4, 2) := by decide +kernel
theorem dX4_holds_27 : decode cX4_holds 27 = .ok (.iload 4, 2) := by decide +kernel
theorem dX4_holds_29 : decode cX4_holds 29 = .ok (.aload_n 0, 1) := by decide +kernel
theorem dX4_holds_30 : decode cX4_holds 30 = .ok (.getfield 22, 3) := by decide +kernel
theorem dX4_holds_33 : decode cX4_holds 33 = .ok (.iload_n 1, 1) := by decide +kernel
theorem dX4_holds_34 : decode cX4_holds 34 = .ok (.iaload, 1) := by decide +kernel
theorem dX4_holds_35 : decode cX4_holds 35 = .ok (.if_icmp .ge 108, 3) := by decide +kernel
theorem dX4_holds_38 : decode cX4_holds 38 = .ok (.aload_n 0, 1) := by decide +kernel
theorem dX4_holds_39 : decode cX4_holds 39 = .ok (.getfield 25, 3) := by decide +kernel
theorem dX4_holds_42 : decode cX4_holds 42 = .ok (.iload 4, 2) := by decide +kernel
theorem dX4_holds_44 : decode cX4_holds 44 = .ok (.iaload, 1) := by decide +kernel
theorem dX4_holds_45 : decode cX4_holds 45 = .ok (.istore 5, 2) := by decide +kernel
theorem dX4_holds_47 : decode cX4_holds 47 = .ok (.iload 5, 2) := by decide +kernel
theorem dX4_holds_49 : decode cX4_holds 49 = .ok (.iconst (-1), 1) := by decide +kernel
theorem dX4_holds_50 : decode cX4_holds 50 = .ok (.ixor, 1) := by decide +kernel
theorem dX4_holds_51 : decode cX4_holds 51 = .ok (.istore 6, 2) := by decide +kernel
theorem dX4_holds_53 : decode cX4_holds 53 = .ok (.iload 6, 2) := by decide +kernel
theorem dX4_holds_55 : decode cX4_holds 55 = .ok (.ifCond .lt 10, 3) := by decide +kernel
theorem dX4_holds_58 : decode cX4_holds 58 = .ok (.iload 6, 2) := by decide +kernel
theorem dX4_holds_60 : decode cX4_holds 60 = .ok (.bipush 16, 2) := by decide +kernel
theorem dX4_holds_62 : decode cX4_holds 62 = .ok (.if_icmp .lt 40, 3) := by decide +kernel
theorem dX4_holds_65 : decode cX4_holds 65 = .ok (.iload_n 3, 1) := by decide +kernel
theorem dX4_holds_66 : decode cX4_holds 66 = .ok (.bipush 32, 2) := by decide +kernel
theorem dX4_holds_68 : decode cX4_holds 68 = .ok (.if_icmp .ge 69, 3) := by decide +kernel
theorem dX4_holds_71 : decode cX4_holds 71 = .ok (.aload_n 0, 1) := by decide +kernel
theorem dX4_holds_72 : decode cX4_holds 72 = .ok (.getfield 28, 3) := by decide +kernel
theorem dX4_holds_75 : decode cX4_holds 75 = .ok (.iload_n 3, 1) := by decide +kernel
theorem dX4_holds_76 : decode cX4_holds 76 = .ok (.iload 6, 2) := by decide +kernel
theorem dX4_holds_78 : decode cX4_holds 78 = .ok (.ifCond .ge 8, 3) := by decide +kernel
theorem dX4_holds_81 : decode cX4_holds 81 = .ok (.iload 5, 2) := by decide +kernel
theorem dX4_holds_83 : decode cX4_holds 83 = .ok (.goto 12, 3) := by decide +kernel
theorem dX4_holds_86 : decode cX4_holds 86 = .ok (.iload 6, 2) := by decide +kernel
theorem dX4_holds_88 : decode cX4_holds 88 = .ok (.bipush 16, 2) := by decide +kernel
theorem dX4_holds_90 : decode cX4_holds 90 = .ok (.isub, 1) := by decide +kernel
theorem dX4_holds_91 : decode cX4_holds 91 = .ok (.aload_n 2, 1) := by decide +kernel
theorem dX4_holds_92 : decode cX4_holds 92 = .ok (.invokestatic 42, 3) := by decide +kernel
theorem dX4_holds_95 : decode cX4_holds 95 = .ok (.iastore, 1) := by decide +kernel
theorem dX4_holds_96 : decode cX4_holds 96 = .ok (.iinc 3 1, 3) := by decide +kernel
theorem dX4_holds_99 : decode cX4_holds 99 = .ok (.goto 38, 3) := by decide +kernel
theorem dX4_holds_102 : decode cX4_holds 102 = .ok (.iload_n 3, 1) := by decide +kernel
theorem dX4_holds_103 : decode cX4_holds 103 = .ok (.iconst 2, 1) := by decide +kernel
theorem dX4_holds_104 : decode cX4_holds 104 = .ok (.if_icmp .lt 33, 3) := by decide +kernel
theorem dX4_holds_107 : decode cX4_holds 107 = .ok (.iinc 3 (-1), 3) := by decide +kernel
theorem dX4_holds_110 : decode cX4_holds 110 = .ok (.aload_n 0, 1) := by decide +kernel
theorem dX4_holds_111 : decode cX4_holds 111 = .ok (.getfield 28, 3) := by decide +kernel
theorem dX4_holds_114 : decode cX4_holds 114 = .ok (.iload_n 3, 1) := by decide +kernel
theorem dX4_holds_115 : decode cX4_holds 115 = .ok (.iconst 1, 1) := by decide +kernel
theorem dX4_holds_116 : decode cX4_holds 116 = .ok (.isub, 1) := by decide +kernel
theorem dX4_holds_117 : decode cX4_holds 117 = .ok (.iload 6, 2) := by decide +kernel
theorem dX4_holds_119 : decode cX4_holds 119 = .ok (.aload_n 0, 1) := by decide +kernel
theorem dX4_holds_120 : decode cX4_holds 120 = .ok (.getfield 28, 3) := by decide +kernel
theorem dX4_holds_123 : decode cX4_holds 123 = .ok (.iload_n 3, 1) := by decide +kernel
theorem dX4_holds_124 : decode cX4_holds 124 = .ok (.iconst 1, 1) := by decide +kernel
theorem dX4_holds_125 : decode cX4_holds 125 = .ok (.isub, 1) := by decide +kernel
theorem dX4_holds_126 : decode cX4_holds 126 = .ok (.iaload, 1) := by decide +kernel
theorem dX4_holds_127 : decode cX4_holds 127 = .ok (.aload_n 0, 1) := by decide +kernel
theorem dX4_holds_128 : decode cX4_holds 128 = .ok (.getfield 28, 3) := by decide +kernel
theorem dX4_holds_131 : decode cX4_holds 131 = .ok (.iload_n 3, 1) := by decide +kernel
theorem dX4_holds_132 : decode cX4_holds 132 = .ok (.iaload, 1) := by decide +kernel
theorem dX4_holds_133 : decode cX4_holds 133 = .ok (.invokestatic 46, 3) := by decide +kernel
theorem dX4_holds_136 : decode cX4_holds 136 = .ok (.iastore, 1) := by decide +kernel
theorem dX4_holds_137 : decode cX4_holds 137 = .ok (.iinc 4 1, 3) := by decide +kernel
theorem dX4_holds_140 : decode cX4_holds 140 = .ok (.goto (-113), 3) := by decide +kernel
theorem dX4_holds_143 : decode cX4_holds 143 = .ok (.aload_n 0, 1) := by decide +kernel
theorem dX4_holds_144 : decode cX4_holds 144 = .ok (.getfield 28, 3) := by decide +kernel
theorem dX4_holds_147 : decode cX4_holds 147 = .ok (.iconst 0, 1) := by decide +kernel
theorem dX4_holds_148 : decode cX4_holds 148 = .ok (.iaload, 1) := by decide +kernel
theorem dX4_holds_149 : decode cX4_holds 149 = .ok (.ifCond .eq 7, 3) := by decide +kernel
theorem dX4_holds_152 : decode cX4_holds 152 = .ok (.iconst 1, 1) := by decide +kernel
theorem dX4_holds_153 : decode cX4_holds 153 = .ok (.goto 4, 3) := by decide +kernel
theorem dX4_holds_156 : decode cX4_holds 156 = .ok (.iconst 0, 1) := by decide +kernel
theorem dX4_holds_157 : decode cX4_holds 157 = .ok (.ireturn, 1) := by decide +kernel
theorem dX4_valueOf_0 : decode cX4_valueOf 0 = .ok (.iload_n 0, 1) := by decide +kernel
theorem dX4_valueOf_1 : decode cX4_valueOf 1 = .ok (.aload_n 1, 1) := by decide +kernel
theorem dX4_valueOf_2 : decode cX4_valueOf 2 = .ok (.arraylength, 1) := by decide +kernel
theorem dX4_valueOf_3 : decode cX4_valueOf 3 = .ok (.if_icmp .ge 9, 3) := by decide +kernel
theorem dX4_valueOf_6 : decode cX4_valueOf 6 = .ok (.aload_n 1, 1) := by decide +kernel
theorem dX4_valueOf_7 : decode cX4_valueOf 7 = .ok (.iload_n 0, 1) := by decide +kernel
theorem dX4_valueOf_8 : decode cX4_valueOf 8 = .ok (.iaload, 1) := by decide +kernel
theorem dX4_valueOf_9 : decode cX4_valueOf 9 = .ok (.goto 4, 3) := by decide +kernel
theorem dX4_valueOf_12 : decode cX4_valueOf 12 = .ok (.iconst 0, 1) := by decide +kernel
theorem dX4_valueOf_13 : decode cX4_valueOf 13 = .ok (.ireturn, 1) := by decide +kernel
theorem dX4_apply_0 : decode cX4_apply 0 = .ok (.iload_n 0, 1) := by decide +kernel
theorem dX4_apply_1 : decode cX4_apply 1 = .ok (.tableswitch 107 1 8 #[47, 51, 55, 66, 77, 88, 99, 103], 47) := by decide +kernel
theorem dX4_apply_48 : decode cX4_apply 48 = .ok (.iload_n 1, 1) := by decide +kernel
theorem dX4_apply_49 : decode cX4_apply 49 = .ok (.iload_n 2, 1) := by decide +kernel
theorem dX4_apply_50 : decode cX4_apply 50 = .ok (.ior, 1) := by decide +kernel
theorem dX4_apply_51 : decode cX4_apply 51 = .ok (.ireturn, 1) := by decide +kernel
theorem dX4_apply_52 : decode cX4_apply 52 = .ok (.iload_n 1, 1) := by decide +kernel
theorem dX4_apply_53 : decode cX4_apply 53 = .ok (.iload_n 2, 1) := by decide +kernel
theorem dX4_apply_54 : decode cX4_apply 54 = .ok (.iand, 1) := by decide +kernel
theorem dX4_apply_55 : decode cX4_apply 55 = .ok (.ireturn, 1) := by decide +kernel
theorem dX4_apply_56 : decode cX4_apply 56 = .ok (.iload_n 1, 1) := by decide +kernel
theorem dX4_apply_57 : decode cX4_apply 57 = .ok (.iload_n 2, 1) := by decide +kernel
theorem dX4_apply_58 : decode cX4_apply 58 = .ok (.if_icmp .ne 7, 3) := by decide +kernel
theorem dX4_apply_61 : decode cX4_apply 61 = .ok (.iconst 1, 1) := by decide +kernel
theorem dX4_apply_62 : decode cX4_apply 62 = .ok (.goto 4, 3) := by decide +kernel
theorem dX4_apply_65 : decode cX4_apply 65 = .ok (.iconst 0, 1) := by decide +kernel
theorem dX4_apply_66 : decode cX4_apply 66 = .ok (.ireturn, 1) := by decide +kernel
theorem dX4_apply_67 : decode cX4_apply 67 = .ok (.iload_n 1, 1) := by decide +kernel
theorem dX4_apply_68 : decode cX4_apply 68 = .ok (.iload_n 2, 1) := by decide +kernel
theorem dX4_apply_69 : decode cX4_apply 69 = .ok (.if_icmp .eq 7, 3) := by decide +kernel
theorem dX4_apply_72 : decode cX4_apply 72 = .ok (.iconst 1, 1) := by decide +kernel
theorem dX4_apply_73 : decode cX4_apply 73 = .ok (.goto 4, 3) := by decide +kernel
theorem dX4_apply_76 : decode cX4_apply 76 = .ok (.iconst 0, 1) := by decide +kernel
theorem dX4_apply_77 : decode cX4_apply 77 = .ok (.ireturn, 1) := by decide +kernel
theorem dX4_apply_78 : decode cX4_apply 78 = .ok (.iload_n 1, 1) := by decide +kernel
theorem dX4_apply_79 : decode cX4_apply 79 = .ok (.iload_n 2, 1) := by decide +kernel
theorem dX4_apply_80 : decode cX4_apply 80 = .ok (.if_icmp .ge 7, 3) := by decide +kernel
theorem dX4_apply_83 : decode cX4_apply 83 = .ok (.iconst 1, 1) := by decide +kernel
theorem dX4_apply_84 : decode cX4_apply 84 = .ok (.goto 4, 3) := by decide +kernel
theorem dX4_apply_87 : decode cX4_apply 87 = .ok (.iconst 0, 1) := by decide +kernel
theorem dX4_apply_88 : decode cX4_apply 88 = .ok (.ireturn, 1) := by decide +kernel
theorem dX4_apply_89 : decode cX4_apply 89 = .ok (.iload_n 1, 1) := by decide +kernel
theorem dX4_apply_90 : decode cX4_apply 90 = .ok (.iload_n 2, 1) := by decide +kernel
theorem dX4_apply_91 : decode cX4_apply 91 = .ok (.if_icmp .gt 7, 3) := by decide +kernel
theorem dX4_apply_94 : decode cX4_apply 94 = .ok (.iconst 1, 1) := by decide +kernel
theorem dX4_apply_95 : decode cX4_apply 95 = .ok (.goto 4, 3) := by decide +kernel
theorem dX4_apply_98 : decode cX4_apply 98 = .ok (.iconst 0, 1) := by decide +kernel
theorem dX4_apply_99 : decode cX4_apply 99 = .ok (.ireturn, 1) := by decide +kernel
theorem dX4_apply_100 : decode cX4_apply 100 = .ok (.iload_n 1, 1) := by decide +kernel
theorem dX4_apply_101 : decode cX4_apply 101 = .ok (.iload_n 2, 1) := by decide +kernel
theorem dX4_apply_102 : decode cX4_apply 102 = .ok (.iadd, 1) := by decide +kernel
theorem dX4_apply_103 : decode cX4_apply 103 = .ok (.ireturn, 1) := by decide +kernel
theorem dX4_apply_104 : decode cX4_apply 104 = .ok (.iload_n 1, 1) := by decide +kernel
theorem dX4_apply_105 : decode cX4_apply 105 = .ok (.iload_n 2, 1) := by decide +kernel
theorem dX4_apply_106 : decode cX4_apply 106 = .ok (.isub, 1) := by decide +kernel
theorem dX4_apply_107 : decode cX4_apply 107 = .ok (.ireturn, 1) := by decide +kernel
theorem dX4_apply_108 : decode cX4_apply 108 = .ok (.iload_n 1, 1) := by decide +kernel
theorem dX4_apply_109 : decode cX4_apply 109 = .ok (.iload_n 2, 1) := by decide +kernel
theorem dX4_apply_110 : decode cX4_apply 110 = .ok (.imul, 1) := by decide +kernel
theorem dX4_apply_111 : decode cX4_apply 111 = .ok (.ireturn, 1) := by decide +kernel
theorem dX5_init_0 : decode cX5_init 0 = .ok (.aload_n 0, 1) := by decide +kernel
theorem dX5_init_1 : decode cX5_init 1 = .ok (.invokespecial 3, 3) := by decide +kernel
theorem dX5_init_4 : decode cX5_init 4 = .ok (.aload_n 0, 1) := by decide +kernel
theorem dX5_init_5 : decode cX5_init 5 = .ok (.sipush 2400, 3) := by decide +kernel
theorem dX5_init_8 : decode cX5_init 8 = .ok (.newarray .long, 2) := by decide +kernel
theorem dX5_init_10 : decode cX5_init 10 = .ok (.putfield 9, 3) := by decide +kernel
theorem dX5_init_13 : decode cX5_init 13 = .ok (.aload_n 0, 1) := by decide +kernel
theorem dX5_init_14 : decode cX5_init 14 = .ok (.sipush 300, 3) := by decide +kernel
theorem dX5_init_17 : decode cX5_init 17 = .ok (.newarray .int, 2) := by decide +kernel
theorem dX5_init_19 : decode cX5_init 19 = .ok (.putfield 15, 3) := by decide +kernel
theorem dX5_init_22 : decode cX5_init 22 = .ok (.aload_n 0, 1) := by decide +kernel
theorem dX5_init_23 : decode cX5_init 23 = .ok (.bipush 72, 2) := by decide +kernel
theorem dX5_init_25 : decode cX5_init 25 = .ok (.newarray .int, 2) := by decide +kernel
theorem dX5_init_27 : decode cX5_init 27 = .ok (.putfield 19, 3) := by decide +kernel
theorem dX5_init_30 : decode cX5_init 30 = .ok (.aload_n 0, 1) := by decide +kernel
theorem dX5_init_31 : decode cX5_init 31 = .ok (.bipush 72, 2) := by decide +kernel
theorem dX5_init_33 : decode cX5_init 33 = .ok (.newarray .int, 2) := by decide +kernel
theorem dX5_init_35 : decode cX5_init 35 = .ok (.putfield 22, 3) := by decide +kernel
theorem dX5_init_38 : decode cX5_init 38 = .ok (.aload_n 0, 1) := by decide +kernel
theorem dX5_init_39 : decode cX5_init 39 = .ok (.bipush 8, 2) := by decide +kernel
theorem dX5_init_41 : decode cX5_init 41 = .ok (.newarray .int, 2) := by decide +kernel
theorem dX5_init_43 : decode cX5_init 43 = .ok (.putfield 25, 3) := by decide +kernel
theorem dX5_init_46 : decode cX5_init 46 = .ok (.aload_n 0, 1) := by decide +kernel
theorem dX5_init_47 : decode cX5_init 47 = .ok (.bipush 7, 2) := by decide +kernel
theorem dX5_init_49 : decode cX5_init 49 = .ok (.newarray .int, 2) := by decide +kernel
theorem dX5_init_51 : decode cX5_init 51 = .ok (.putfield 28, 3) := by decide +kernel
theorem dX5_init_54 : decode cX5_init 54 = .ok (.aload_n 0, 1) := by decide +kernel
theorem dX5_init_55 : decode cX5_init 55 = .ok (.aload_n 1, 1) := by decide +kernel
theorem dX5_init_56 : decode cX5_init 56 = .ok (.putfield 31, 3) := by decide +kernel
theorem dX5_init_59 : decode cX5_init 59 = .ok (.return_, 1) := by decide +kernel
theorem dX5_play_0 : decode cX5_play 0 = .ok (.aload_n 0, 1) := by decide +kernel
theorem dX5_play_1 : decode cX5_play 1 = .ok (.invokevirtual 35, 3) := by decide +kernel
theorem dX5_play_4 : decode cX5_play 4 = .ok (.iconst 0, 1) := by decide +kernel
theorem dX5_play_5 : decode cX5_play 5 = .ok (.istore_n 2, 1) := by decide +kernel
theorem dX5_play_6 : decode cX5_play 6 = .ok (.iload_n 2, 1) := by decide +kernel
theorem dX5_play_7 : decode cX5_play 7 = .ok (.sipush 300, 3) := by decide +kernel
theorem dX5_play_10 : decode cX5_play 10 = .ok (.if_icmp .ge 72, 3) := by decide +kernel
theorem dX5_play_13 : decode cX5_play 13 = .ok (.aload_n 0, 1) := by decide +kernel
theorem dX5_play_14 : decode cX5_play 14 = .ok (.iload_n 2, 1) := by decide +kernel
theorem dX5_play_15 : decode cX5_play 15 = .ok (.invokevirtual 38, 3) := by decide +kernel
theorem dX5_play_18 : decode cX5_play 18 = .ok (.aload_n 0, 1) := by decide +kernel
theorem dX5_play_19 : decode cX5_play 19 = .ok (.iload_n 2, 1) := by decide +kernel
theorem dX5_play_20 : decode cX5_play 20 = .ok (.invokevirtual 42, 3) := by decide +kernel
theorem dX5_play_23 : decode cX5_play 23 = .ok (.aload_n 0, 1) := by decide +kernel
theorem dX5_play_24 : decode cX5_play 24 = .ok (.iload_n 2, 1) := by decide +kernel
theorem dX5_play_25 : decode cX5_play 25 = .ok (.invokevirtual 45, 3) := by decide +kernel
theorem dX5_play_28 : decode cX5_play 28 = .ok (.aload_n 0, 1) := by decide +kernel
theorem dX5_play_29 : decode cX5_play 29 = .ok (.iload_n 2, 1) := by decide +kernel
theorem dX5_play_30 : decode cX5_play 30 = .ok (.invokevirtual 48, 3) := by decide +kernel
theorem dX5_play_33 : decode cX5_play 33 = .ok (.aload_n 0, 1) := by decide +kernel
theorem dX5_play_34 : decode cX5_play 34 = .ok (.invokevirtual 51, 3) := by decide +kernel
theorem dX5_play_37 : decode cX5_play 37 = .ok (.ifCond .ne 11, 3) := by decide +kernel
theorem dX5_play_40 : decode cX5_play 40 = .ok (.aload_n 0, 1) := by decide +kernel
theorem dX5_play_41 : decode cX5_play 41 = .ok (.iload_n 2, 1) := by decide +kernel
theorem dX5_play_42 : decode cX5_play 42 = .ok (.putfield 55, 3) := by decide +kernel
theorem dX5_play_45 : decode cX5_play 45 = .ok (.goto 22, 3) := by decide +kernel
theorem dX5_play_48 : decode cX5_play 48 = .ok (.iload_n 1, 1) := by decide +kernel
theorem dX5_play_49 : decode cX5_play 49 = .ok (.ifCond .ne 18, 3) := by decide +kernel
theorem dX5_play_52 : decode cX5_play 52 = .ok (.iload_n 2, 1) := by decide +kernel
theorem dX5_play_53 : decode cX5_play 53 = .ok (.aload_n 0, 1) := by decide +kernel
theorem dX5_play_54 : decode cX5_play 54 = .ok (.getfield 31, 3) := by decide +kernel
theorem dX5_play_57 : decode cX5_play 57 = .ok (.getfield 59, 3) := by decide +kernel
theorem dX5_play_60 : decode cX5_play 60 = .ok (.getfield 65, 3) := by decide +kernel
theorem dX5_play_63 : decode cX5_play 63 = .ok (.if_icmp .lt 4, 3) := by decide +kernel
theorem dX5_play_66 : decode cX5_play 66 = .ok (.return_, 1) := by decide +kernel
theorem dX5_play_67 : decode cX5_play 67 = .ok (.iload_n 1, 1) := by decide +kernel
theorem dX5_play_68 : decode cX5_play 68 = .ok (.ifCond .eq 8, 3) := by decide +kernel
theorem dX5_play_71 : decode cX5_play 71 = .ok (.aload_n 0, 1) := by decide +kernel
theorem dX5_play_72 : decode cX5_play 72 = .ok (.iload_n 2, 1) := by decide +kernel
theorem dX5_play_73 : decode cX5_play 73 = .ok (.invokevirtual 70, 3) := by decide +kernel
theorem dX5_play_76 : decode cX5_play 76 = .ok (.iinc 2 1, 3) := by decide +kernel
theorem dX5_play_79 : decode cX5_play 79 = .ok (.goto (-73), 3) := by decide +kernel
theorem dX5_play_82 : decode cX5_play 82 = .ok (.return_, 1) := by decide +kernel
theorem dX5_reset_0 : decode cX5_reset 0 = .ok (.aload_n 0, 1) := by decide +kernel
theorem dX5_reset_1 : decode cX5_reset 1 = .ok (.getfield 19, 3) := by decide +kernel
theorem dX5_reset_4 : decode cX5_reset 4 = .ok (.iconst 0, 1) := by decide +kernel
theorem dX5_reset_5 : decode cX5_reset 5 = .ok (.invokestatic 73, 3) := by decide +kernel
theorem dX5_reset_8 : decode cX5_reset 8 = .ok (.aload_n 0, 1) := by decide +kernel
theorem dX5_reset_9 : decode cX5_reset 9 = .ok (.getfield 22, 3) := by decide +kernel
theorem dX5_reset_12 : decode cX5_reset 12 = .ok (.iconst (-1), 1) := by decide +kernel
theorem dX5_reset_13 : decode cX5_reset 13 = .ok (.invokestatic 73, 3) := by decide +kernel
theorem dX5_reset_16 : decode cX5_reset 16 = .ok (.aload_n 0, 1) := by decide +kernel
theorem dX5_reset_17 : decode cX5_reset 17 = .ok (.iconst 0, 1) := by decide +kernel
theorem dX5_reset_18 : decode cX5_reset 18 = .ok (.putfield 79, 3) := by decide +kernel
theorem dX5_reset_21 : decode cX5_reset 21 = .ok (.aload_n 0, 1) := by decide +kernel
theorem dX5_reset_22 : decode cX5_reset 22 = .ok (.iconst (-1), 1) := by decide +kernel
theorem dX5_reset_23 : decode cX5_reset 23 = .ok (.putfield 55, 3) := by decide +kernel
theorem dX5_reset_26 : decode cX5_reset 26 = .ok (.iconst 0, 1) := by decide +kernel
theorem dX5_reset_27 : decode cX5_reset 27 = .ok (.istore_n 1, 1) := by decide +kernel
theorem dX5_reset_28 : decode cX5_reset 28 = .ok (.iload_n 1, 1) := by decide +kernel
theorem dX5_reset_29 : decode cX5_reset 29 = .ok (.aload_n 0, 1) := by decide +kernel
theorem dX5_reset_30 : decode cX5_reset 30 = .ok (.getfield 31, 3) := by decide +kernel
theorem dX5_reset_33 : decode cX5_reset 33 = .ok (.getfield 82, 3) := by decide +kernel
theorem dX5_reset_36 : decode cX5_reset 36 = .ok (.if_icmp .ge 21, 3) := by decide +kernel
theorem dX5_reset_39 : decode cX5_reset 39 = .ok (.aload_n 0, 1) := by decide +kernel
theorem dX5_reset_40 : decode cX5_reset 40 = .ok (.getfield 31, 3) := by decide +kernel
theorem dX5_reset_43 : decode cX5_reset 43 = .ok (.getfield 85, 3) := by decide +kernel
theorem dX5_reset_46 : decode cX5_reset 46 = .ok (.iload_n 1, 1) := by decide +kernel
theorem dX5_reset_47 : decode cX5_reset 47 = .ok (.aaload, 1) := by decide +kernel
theorem dX5_reset_48 : decode cX5_reset 48 = .ok (.invokevirtual 89, 3) := by decide +kernel
theorem dX5_reset_51 : decode cX5_reset 51 = .ok (.iinc 1 1, 3) := by decide +kernel
theorem dX5_reset_54 : decode cX5_reset 54 = .ok (.goto (-26), 3) := by decide +kernel
theorem dX5_reset_57 : decode cX5_reset 57 = .ok (.return_, 1) := by decide +kernel
theorem dX5_power_0 : decode cX5_power 0 = .ok (.iconst 0, 1) := by decide +kernel
theorem dX5_power_1 : decode cX5_power 1 = .ok (.istore_n 2, 1) := by decide +kernel
theorem dX5_power_2 : decode cX5_power 2 = .ok (.iload_n 2, 1) := by decide +kernel
theorem dX5_power_3 : decode cX5_power 3 = .ok (.aload_n 0, 1) := by decide +kernel
theorem dX5_power_4 : decode cX5_power 4 = .ok (.getfield 31, 3) := by decide +kernel
theorem dX5_power_7 : decode cX5_power 7 = .ok (.getfield 82, 3) := by decide +kernel
theorem dX5_power_10 : decode cX5_power 10 = .ok (.if_icmp .ge 78, 3) := by decide +kernel
theorem dX5_power_13 : decode cX5_power 13 = .ok (.aload_n 0, 1) := by decide +kernel
theorem dX5_power_14 : decode cX5_power 14 = .ok (.getfield 31, 3) := by decide +kernel
theorem dX5_power_17 : decode cX5_power 17 = .ok (.getfield 85, 3) := by decide +kernel
theorem dX5_power_20 : decode cX5_power 20 = .ok (.iload_n 2, 1) := by decide +kernel
theorem dX5_power_21 : decode cX5_power 21 = .ok (.aaload, 1) := by decide +kernel
theorem dX5_power_22 : decode cX5_power 22 = .ok (.astore_n 3, 1) := by decide +kernel
theorem dX5_power_23 : decode cX5_power 23 = .ok (.aload_n 0, 1) := by decide +kernel
theorem dX5_power_24 : decode cX5_power 24 = .ok (.getfield 31, 3) := by decide +kernel
theorem dX5_power_27 : decode cX5_power 27 = .ok (.getfield 59, 3) := by decide +kernel
theorem dX5_power_30 : decode cX5_power 30 = .ok (.iload_n 2, 1) := by decide +kernel
theorem dX5_power_31 : decode cX5_power 31 = .ok (.iload_n 1, 1) := by decide +kernel
theorem dX5_power_32 : decode cX5_power 32 = .ok (.invokevirtual 92, 3) := by decide +kernel
theorem dX5_power_35 : decode cX5_power 35 = .ok (.ifCond .eq 11, 3) := by decide +kernel
theorem dX5_power_38 : decode cX5_power 38 = .ok (.aload_n 3, 1) := by decide +kernel
theorem dX5_power_39 : decode cX5_power 39 = .ok (.iload_n 1, 1) := by decide +kernel
theorem dX5_power_40 : decode cX5_power 40 = .ok (.invokevirtual 96, 3) := by decide +kernel
theorem dX5_power_43 : decode cX5_power 43 = .ok (.goto 39, 3) := by decide +kernel
theorem dX5_power_46 : decode cX5_power 46 = .ok (.aload_n 3, 1) := by decide +kernel
theorem dX5_power_47 : decode cX5_power 47 = .ok (.getfield 99, 3) := by decide +kernel
theorem dX5_power_50 : decode cX5_power 50 = .ok (.ifCond .ne 32, 3) := by decide +kernel
theorem dX5_power_53 : decode cX5_power 53 = .ok (.iload_n 1, 1) := by decide +kernel
theorem dX5_power_54 : decode cX5_power 54 = .ok (.aload_n 3, 1) := by decide +kernel
theorem dX5_power_55 : decode cX5_power 55 = .ok (.getfield 102, 3) := by decide +kernel
theorem dX5_power_58 : decode cX5_power 58 = .ok (.if_icmp .lt 24, 3) := by decide +kernel
theorem dX5_power_61 : decode cX5_power 61 = .ok (.iload_n 1, 1) := by decide +kernel
theorem dX5_power_62 : decode cX5_power 62 = .ok (.aload_n 0, 1) := by decide +kernel
theorem dX5_power_63 : decode cX5_power 63 = .ok (.getfield 31, 3) := by decide +kernel
theorem dX5_power_66 : decode cX5_power 66 = .ok (.getfield 105, 3) := by decide +kernel
theorem dX5_power_69 : decode cX5_power 69 = .ok (.aload_n 3, 1) := by decide +kernel
theorem dX5_power_70 : decode cX5_power 70 = .ok (.getfield 108, 3) := by decide +kernel
theorem dX5_power_73 : decode cX5_power 73 = .ok (.iaload, 1) := by decide +kernel
theorem dX5_power_74 : decode cX5_power 74 = .ok (.if_icmp .lt 8, 3) := by decide +kernel
theorem dX5_power_77 : decode cX5_power 77 = .ok (.aload_n 3, 1) := by decide +kernel
theorem dX5_power_78 : decode cX5_power 78 = .ok (.iload_n 1, 1) := by decide +kernel
theorem dX5_power_79 : decode cX5_power 79 = .ok (.invokevirtual 111, 3) := by decide +kernel
theorem dX5_power_82 : decode cX5_power 82 = .ok (.iinc 2 1, 3) := by decide +kernel
theorem dX5_power_85 : decode cX5_power 85 = .ok (.goto (-83), 3) := by decide +kernel
theorem dX5_power_88 : decode cX5_power 88 = .ok (.return_, 1) := by decide +kernel
theorem dX5_ask_0 : decode cX5_ask 0 = .ok (.iconst 0, 1) := by decide +kernel
theorem dX5_ask_1 : decode cX5_ask 1 = .ok (.istore_n 2, 1) := by decide +kernel
theorem dX5_ask_2 : decode cX5_ask 2 = .ok (.iload_n 2, 1) := by decide +kernel
theorem dX5_ask_3 : decode cX5_ask 3 = .ok (.aload_n 0, 1) := by decide +kernel
theorem dX5_ask_4 : decode cX5_ask 4 = .ok (.getfield 31, 3) := by decide +kernel
theorem dX5_ask_7 : decode cX5_ask 7 = .ok (.getfield 82, 3) := by decide +kernel
theorem dX5_ask_10 : decode cX5_ask 10 = .ok (.if_icmp .ge 42, 3) := by decide +kernel
theorem dX5_ask_13 : decode cX5_ask 13 = .ok (.aload_n 0, 1) := by decide +kernel
theorem dX5_ask_14 : decode cX5_ask 14 = .ok (.getfield 31, 3) := by decide +kernel
theorem dX5_ask_17 : decode cX5_ask 17 = .ok (.getfield 85, 3) := by decide +kernel
theorem dX5_ask_20 : decode cX5_ask 20 = .ok (.iload_n 2, 1) := by decide +kernel
theorem dX5_ask_21 : decode cX5_ask 21 = .ok (.aaload, 1) := by decide +kernel
theorem dX5_ask_22 : decode cX5_ask 22 = .ok (.astore_n 3, 1) := by decide +kernel
theorem dX5_ask_23 : decode cX5_ask 23 = .ok (.aload_n 3, 1) := by decide +kernel
theorem dX5_ask_24 : decode cX5_ask 24 = .ok (.getfield 99, 3) := by decide +kernel
theorem dX5_ask_27 : decode cX5_ask 27 = .ok (.iconst 1, 1) := by decide +kernel
theorem dX5_ask_28 : decode cX5_ask 28 = .ok (.if_icmp .ne 18, 3) := by decide +kernel
theorem dX5_ask_31 : decode cX5_ask 31 = .ok (.iload_n 1, 1) := by decide +kernel
theorem dX5_ask_32 : decode cX5_ask 32 = .ok (.aload_n 3, 1) := by decide +kernel
theorem dX5_ask_33 : decode cX5_ask 33 = .ok (.getfield 114, 3) := by decide +kernel
theorem dX5_ask_36 : decode cX5_ask 36 = .ok (.if_icmp .lt 10, 3) := by decide +kernel
theorem dX5_ask_39 : decode cX5_ask 39 = .ok (.aload_n 0, 1) := by decide +kernel
theorem dX5_ask_40 : decode cX5_ask 40 = .ok (.iload_n 2, 1) := by decide +kernel
theorem dX5_ask_41 : decode cX5_ask 41 = .ok (.aload_n 3, 1) := by decide +kernel
theorem dX5_ask_42 : decode cX5_ask 42 = .ok (.iload_n 1, 1) := by decide +kernel
theorem dX5_ask_43 : decode cX5_ask 43 = .ok (.invokevirtual 117, 3) := by decide +kernel
theorem dX5_ask_46 : decode cX5_ask 46 = .ok (.iinc 2 1, 3) := by decide +kernel
theorem dX5_ask_49 : decode cX5_ask 49 = .ok (.goto (-47), 3) := by decide +kernel
theorem dX5_ask_52 : decode cX5_ask 52 = .ok (.return_, 1) := by decide +kernel
theorem dX5_question_0 : decode cX5_question 0 = .ok (.iconst (-1), 1) := by decide +kernel
theorem dX5_question_1 : decode cX5_question 1 = .ok (.istore 4, 2) := by decide +kernel
theorem dX5_question_3 : decode cX5_question 3 = .ok (.iconst 0, 1) := by decide +kernel
theorem dX5_question_4 : decode cX5_question 4 = .ok (.istore 5, 2) := by decide +kernel
theorem dX5_question_6 : decode cX5_question 6 = .ok (.aload_n 0, 1) := by decide +kernel
theorem dX5_question_7 : decode cX5_question 7 = .ok (.getfield 31, 3) := by decide +kernel
theorem dX5_question_10 : decode cX5_question 10 = .ok (.getfield 59, 3) := by decide +kernel
theorem dX5_question_13 : decode cX5_question 13 = .ok (.iload_n 1, 1) := by decide +kernel
theorem dX5_question_14 : decode cX5_question 14 = .ok (.iload_n 3, 1) := by decide +kernel
theorem dX5_question_15 : decode cX5_question 15 = .ok (.invokevirtual 121, 3) := by decide +kernel
theorem dX5_question_18 : decode cX5_question 18 = .ok (.ifCond .ne 112, 3) := by decide +kernel
theorem dX5_question_21 : decode cX5_question 21 = .ok (.aload_n 0, 1) := by decide +kernel
theorem dX5_question_22 : decode cX5_question 22 = .ok (.aload_n 2, 1) := by decide +kernel
theorem dX5_question_23 : decode cX5_question 23 = .ok (.aload_n 2, 1) := by decide +kernel
theorem dX5_question_24 : decode cX5_question 24 = .ok (.getfield 124, 3) := by decide +kernel
theorem dX5_question_27 : decode cX5_question 27 = .ok (.aload_n 2, 1) := by decide +kernel
theorem dX5_question_28 : decode cX5_question 28 = .ok (.getfield 127, 3) := by decide +kernel
theorem dX5_question_31 : decode cX5_question 31 = .ok (.aload_n 2, 1) := by decide +kernel
theorem dX5_question_32 : decode cX5_question 32 = .ok (.getfield 130, 3) := by decide +kernel
theorem dX5_question_35 : decode cX5_question 35 = .ok (.iload_n 3, 1) := by decide +kernel
theorem dX5_question_36 : decode cX5_question 36 = .ok (.invokevirtual 133, 3) := by decide +kernel
theorem dX5_question_39 : decode cX5_question 39 = .ok (.iconst 0, 1) := by decide +kernel
theorem dX5_question_40 : decode cX5_question 40 = .ok (.istore 6, 2) := by decide +kernel
theorem dX5_question_42 : decode cX5_question 42 = .ok (.iload 6, 2) := by decide +kernel
theorem dX5_question_44 : decode cX5_question 44 = .ok (.iconst 2, 1) := by decide +kernel
theorem dX5_question_45 : decode cX5_question 45 = .ok (.if_icmp .ge 85, 3) := by decide +kernel
theorem dX5_question_48 : decode cX5_question 48 = .ok (.iload 4, 2) := by decide +kernel
theorem dX5_question_50 : decode cX5_question 50 = .ok (.iconst (-1), 1) := by decide +kernel
theorem dX5_question_51 : decode cX5_question 51 = .ok (.if_icmp .ne 79, 3) := by decide +kernel
theorem dX5_question_54 : decode cX5_question 54 = .ok (.aload_n 0, 1) := by decide +kernel
theorem dX5_question_55 : decode cX5_question 55 = .ok (.getfield 31, 3) := by decide +kernel
theorem dX5_question_58 : decode cX5_question 58 = .ok (.getfield 59, 3) := by decide +kernel
theorem dX5_question_61 : decode cX5_question 61 = .ok (.iload 6, 2) := by decide +kernel
theorem dX5_question_63 : decode cX5_question 63 = .ok (.iload_n 3, 1) := by decide +kernel
theorem dX5_question_64 : decode cX5_question 64 = .ok (.invokevirtual 137, 3) := by decide +kernel
theorem dX5_question_67 : decode cX5_question 67 = .ok (.ifCond .ne 57, 3) := by decide +kernel
theorem dX5_question_70 : decode cX5_question 70 = .ok (.aload_n 0, 1) := by decide +kernel
theorem dX5_question_71 : decode cX5_question 71 = .ok (.getfield 31, 3) := by decide +kernel
theorem dX5_question_74 : decode cX5_question 74 = .ok (.getfield 140, 3) := by decide +kernel
theorem dX5_question_77 : decode cX5_question 77 = .ok (.iload 6, 2) := by decide +kernel
theorem dX5_question_79 : decode cX5_question 79 = .ok (.aaload, 1) := by decide +kernel
theorem dX5_question_80 : decode cX5_question 80 = .ok (.aload_n 0, 1) := by decide +kernel
theorem dX5_question_81 : decode cX5_question 81 = .ok (.getfield 28, 3) := by decide +kernel
theorem dX5_question_84 : decode cX5_question 84 = .ok (.aload_n 0, 1) := by decide +kernel
theorem dX5_question_85 : decode cX5_question 85 = .ok (.getfield 31, 3) := by decide +kernel
theorem dX5_question_88 : decode cX5_question 88 = .ok (.getfield 144, 3) := by decide +kernel
theorem dX5_question_91 : decode cX5_question 91 = .ok (.invokevirtual 147, 3) := by decide +kernel
theorem dX5_question_94 : decode cX5_question 94 = .ok (.istore 4, 2) := by decide +kernel
theorem dX5_question_96 : decode cX5_question 96 = .ok (.iload 4, 2) := by decide +kernel
theorem dX5_question_98 : decode cX5_question 98 = .ok (.ifCond .ge 7, 3) := by decide +kernel
theorem dX5_question_101 : decode cX5_question 101 = .ok (.iconst 0, 1) := by decide +kernel
theorem dX5_question_102 : decode cX5_question 102 = .ok (.goto 20, 3) := by decide +kernel
theorem dX5_question_105 : decode cX5_question 105 = .ok (.aload_n 0, 1) := by decide +kernel
theorem dX5_question_106 : decode cX5_question 106 = .ok (.getfield 31, 3) := by decide +kernel
theorem dX5_question_109 : decode cX5_question 109 = .ok (.getfield 140, 3) := by decide +kernel
theorem dX5_question_112 : decode cX5_question 112 = .ok (.iload 6, 2) := by decide +kernel
theorem dX5_question_114 : decode cX5_question 114 = .ok (.aaload, 1) := by decide +kernel
theorem dX5_question_115 : decode cX5_question 115 = .ok (.aload_n 0, 1) := by decide +kernel
theorem dX5_question_116 : decode cX5_question 116 = .ok (.getfield 28, 3) := by decide +kernel
theorem dX5_question_119 : decode cX5_question 119 = .ok (.invokevirtual 153, 3) := by decide +kernel
theorem dX5_question_122 : decode cX5_question 122 = .ok (.istore 5, 2) := by decide +kernel
theorem dX5_question_124 : decode cX5_question 124 = .ok (.iinc 6 1, 3) := by decide +kernel
theorem dX5_question_127 : decode cX5_question 127 = .ok (.goto (-85), 3) := by decide +kernel
theorem dX5_question_130 : decode cX5_question 130 = .ok (.iload 4, 2) := by decide +kernel
theorem dX5_question_132 : decode cX5_question 132 = .ok (.ifCond .ge 23, 3) := by decide +kernel
theorem dX5_question_135 : decode cX5_question 135 = .ok (.aload_n 2, 1) := by decide +kernel
theorem dX5_question_136 : decode cX5_question 136 = .ok (.iload 4, 2) := by decide +kernel
theorem dX5_question_138 : decode cX5_question 138 = .ok (.bipush (-2), 2) := by decide +kernel
theorem dX5_question_140 : decode cX5_question 140 = .ok (.if_icmp .ne 7, 3) := by decide +kernel
theorem dX5_question_143 : decode cX5_question 143 = .ok (.iconst 2, 1) := by decide +kernel
theorem dX5_question_144 : decode cX5_question 144 = .ok (.goto 4, 3) := by decide +kernel
theorem dX5_question_147 : decode cX5_question 147 = .ok (.iconst 1, 1) := by decide +kernel
theorem dX5_question_148 : decode cX5_question 148 = .ok (.iload_n 3, 1) := by decide +kernel
theorem dX5_question_149 : decode cX5_question 149 = .ok (.invokevirtual 157, 3) := by decide +kernel
theorem dX5_question_152 : decode cX5_question 152 = .ok (.goto 36, 3) := by decide +kernel
theorem dX5_question_155 : decode cX5_question 155 = .ok (.aload_n 0, 1) := by decide +kernel
theorem dX5_question_156 : decode cX5_question 156 = .ok (.getfield 31, 3) := by decide +kernel
theorem dX5_question_159 : decode cX5_question 159 = .ok (.iload_n 1, 1) := by decide +kernel
theorem dX5_question_160 : decode cX5_question 160 = .ok (.iload 5, 2) := by decide +kernel
theorem dX5_question_162 : decode cX5_question 162 = .ok (.invokevirtual 161, 3) := by decide +kernel
theorem dX5_question_165 : decode cX5_question 165 = .ok (.ifCond .eq 13, 3) := by decide +kernel
theorem dX5_question_168 : decode cX5_question 168 = .ok (.aload_n 2, 1) := by decide +kernel
theorem dX5_question_169 : decode cX5_question 169 = .ok (.iload_n 3, 1) := by decide +kernel
theorem dX5_question_170 : decode cX5_question 170 = .ok (.iconst 1, 1) := by decide +kernel
theorem dX5_question_171 : decode cX5_question 171 = .ok (.iadd, 1) := by decide +kernel
theorem dX5_question_172 : decode cX5_question 172 = .ok (.putfield 114, 3) := by decide +kernel
theorem dX5_question_175 : decode cX5_question 175 = .ok (.goto 13, 3) := by decide +kernel
theorem dX5_question_178 : decode cX5_question 178 = .ok (.aload_n 2, 1) := by decide +kernel
theorem dX5_question_179 : decode cX5_question 179 = .ok (.iload 4, 2) := by decide +kernel
theorem dX5_question_181 : decode cX5_question 181 = .ok (.iconst 1, 1) := by decide +kernel
theorem dX5_question_182 : decode cX5_question 182 = .ok (.iload_n 3, 1) := by decide +kernel
theorem dX5_question_183 : decode cX5_question 183 = .ok (.iconst 1, 1) := by decide +kernel
theorem dX5_question_184 : decode cX5_question 184 = .ok (.iadd, 1) := by decide +kernel
theorem dX5_question_185 : decode cX5_question 185 = .ok (.invokevirtual 164, 3) := by decide +kernel
theorem dX5_question_188 : decode cX5_question 188 = .ok (.return_, 1) := by decide +kernel
theorem dX5_setVars_0 : decode cX5_setVars 0 = .ok (.aload_n 0, 1) := by decide +kernel
theorem dX5_setVars_1 : decode cX5_setVars 1 = .ok (.getfield 28, 3) := by decide +kernel
theorem dX5_setVars_4 : decode cX5_setVars 4 = .ok (.iconst 0, 1) := by decide +kernel
theorem dX5_setVars_5 : decode cX5_setVars 5 = .ok (.aload_n 1, 1) := by decide +kernel
theorem dX5_setVars_6 : decode cX5_setVars 6 = .ok (.getfield 108, 3) := by decide +kernel
theorem dX5_setVars_9 : decode cX5_setVars 9 = .ok (.iastore, 1) := by decide +kernel
theorem dX5_setVars_10 : decode cX5_setVars 10 = .ok (.aload_n 0, 1) := by decide +kernel
theorem dX5_setVars_11 : decode cX5_setVars 11 = .ok (.getfield 28, 3) := by decide +kernel
theorem dX5_setVars_14 : decode cX5_setVars 14 = .ok (.iconst 1, 1) := by decide +kernel
theorem dX5_setVars_15 : decode cX5_setVars 15 = .ok (.aload_n 1, 1) := by decide +kernel
theorem dX5_setVars_16 : decode cX5_setVars 16 = .ok (.getfield 168, 3) := by decide +kernel
theorem dX5_setVars_19 : decode cX5_setVars 19 = .ok (.iastore, 1) := by decide +kernel
theorem dX5_setVars_20 : decode cX5_setVars 20 = .ok (.aload_n 0, 1) := by decide +kernel
theorem dX5_setVars_21 : decode cX5_setVars 21 = .ok (.getfield 28, 3) := by decide +kernel
theorem dX5_setVars_24 : decode cX5_setVars 24 = .ok (.iconst 2, 1) := by decide +kernel
theorem dX5_setVars_25 : decode cX5_setVars 25 = .ok (.aload_n 1, 1) := by decide +kernel
theorem dX5_setVars_26 : decode cX5_setVars 26 = .ok (.getfield 171, 3) := by decide +kernel
theorem dX5_setVars_29 : decode cX5_setVars 29 = .ok (.iastore, 1) := by decide +kernel
theorem dX5_setVars_30 : decode cX5_setVars 30 = .ok (.aload_n 0, 1) := by decide +kernel
theorem dX5_setVars_31 : decode cX5_setVars 31 = .ok (.getfield 28, 3) := by decide +kernel
theorem dX5_setVars_34 : decode cX5_setVars 34 = .ok (.iconst 3, 1) := by decide +kernel
theorem dX5_setVars_35 : decode cX5_setVars 35 = .ok (.iload_n 2, 1) := by decide +kernel
theorem dX5_setVars_36 : decode cX5_setVars 36 = .ok (.iastore, 1) := by decide +kernel
theorem dX5_setVars_37 : decode cX5_setVars 37 = .ok (.aload_n 0, 1) := by decide +kernel
theorem dX5_setVars_38 : decode cX5_setVars 38 = .ok (.getfield 28, 3) := by decide +kernel
theorem dX5_setVars_41 : decode cX5_setVars 41 = .ok (.iconst 4, 1) := by decide +kernel
theorem dX5_setVars_42 : decode cX5_setVars 42 = .ok (.iload_n 3, 1) := by decide +kernel
theorem dX5_setVars_43 : decode cX5_setVars 43 = .ok (.iastore, 1) := by decide +kernel
theorem dX5_setVars_44 : decode cX5_setVars 44 = .ok (.aload_n 0, 1) := by decide +kernel
theorem dX5_setVars_45 : decode cX5_setVars 45 = .ok (.getfield 28, 3) := by decide +kernel
theorem dX5_setVars_48 : decode cX5_setVars 48 = .ok (.iconst 5, 1) := by decide +kernel
theorem dX5_setVars_49 : decode cX5_setVars 49 = .ok (.iload 4, 2) := by decide +kernel
theorem dX5_setVars_51 : decode cX5_setVars 51 = .ok (.iastore, 1) := by decide +kernel
theorem dX5_setVars_52 : decode cX5_setVars 52 = .ok (.aload_n 0, 1) := by decide +kernel
theorem dX5_setVars_53 : decode cX5_setVars 53 = .ok (.getfield 28, 3) := by decide +kernel
theorem dX5_setVars_56 : decode cX5_setVars 56 = .ok (.bipush 6, 2) := by decide +kernel
theorem dX5_setVars_58 : decode cX5_setVars 58 = .ok (.iload 5, 2) := by decide +kernel
theorem dX5_setVars_60 : decode cX5_setVars 60 = .ok (.iastore, 1) := by decide +kernel
theorem dX5_setVars_61 : decode cX5_setVars 61 = .ok (.return_, 1) := by decide +kernel
theorem dX5_send_0 : decode cX5_send 0 = .ok (.aload_n 0, 1) := by decide +kernel
theorem dX5_send_1 : decode cX5_send 1 = .ok (.iload_n 1, 1) := by decide +kernel
theorem dX5_send_2 : decode cX5_send 2 = .ok (.invokevirtual 174, 3) := by decide +kernel
theorem dX5_send_5 : decode cX5_send 5 = .ok (.istore_n 2, 1) := by decide +kernel
theorem dX5_send_6 : decode cX5_send 6 = .ok (.iconst 0, 1) := by decide +kernel
theorem dX5_send_7 : decode cX5_send 7 = .ok (.istore_n 3, 1) := by decide +kernel
theorem dX5_send_8 : decode cX5_send 8 = .ok (.iconst 0, 1) := by decide +kernel
theorem dX5_send_9 : decode cX5_send 9 = .ok (.istore 4, 2) := by decide +kernel
theorem dX5_send_11 : decode cX5_send 11 = .ok (.iload 4, 2) := by decide +kernel
theorem dX5_send_13 : decode cX5_send 13 = .ok (.iload_n 2, 1) := by decide +kernel
theorem dX5_send_14 : decode cX5_send 14 = .ok (.if_icmp .ge 73, 3) := by decide +kernel
theorem dX5_send_17 : decode cX5_send 17 = .ok (.iload_n 3, 1) := by decide +kernel
theorem dX5_send_18 : decode cX5_send 18 = .ok (.aload_n 0, 1) := by decide +kernel
theorem dX5_send_19 : decode cX5_send 19 = .ok (.getfield 31, 3) := by decide +kernel
theorem dX5_send_22 : decode cX5_send 22 = .ok (.getfield 178, 3) := by decide +kernel
theorem dX5_send_25 : decode cX5_send 25 = .ok (.if_icmp .ge 62, 3) := by decide +kernel
theorem dX5_send_28 : decode cX5_send 28 = .ok (.aload_n 0, 1) := by decide +kernel
theorem dX5_send_29 : decode cX5_send 29 = .ok (.getfield 31, 3) := by decide +kernel
theorem dX5_send_32 : decode cX5_send 32 = .ok (.getfield 85, 3) := by decide +kernel
theorem dX5_send_35 : decode cX5_send 35 = .ok (.aload_n 0, 1) := by decide +kernel
theorem dX5_send_36 : decode cX5_send 36 = .ok (.getfield 25, 3) := by decide +kernel
theorem dX5_send_39 : decode cX5_send 39 = .ok (.iload 4, 2) := by decide +kernel
theorem dX5_send_41 : decode cX5_send 41 = .ok (.iaload, 1) := by decide +kernel
theorem dX5_send_42 : decode cX5_send 42 = .ok (.aaload, 1) := by decide +kernel
theorem dX5_send_43 : decode cX5_send 43 = .ok (.invokestatic 181, 3) := by decide +kernel
theorem dX5_send_46 : decode cX5_send 46 = .ok (.istore 5, 2) := by decide +kernel
theorem dX5_send_48 : decode cX5_send 48 = .ok (.aload_n 0, 1) := by decide +kernel
theorem dX5_send_49 : decode cX5_send 49 = .ok (.getfield 22, 3) := by decide +kernel
theorem dX5_send_52 : decode cX5_send 52 = .ok (.iload 5, 2) := by decide +kernel
theorem dX5_send_54 : decode cX5_send 54 = .ok (.iaload, 1) := by decide +kernel
theorem dX5_send_55 : decode cX5_send 55 = .ok (.iload_n 1, 1) := by decide +kernel
theorem dX5_send_56 : decode cX5_send 56 = .ok (.if_icmp .eq 25, 3) := by decide +kernel
theorem dX5_send_59 : decode cX5_send 59 = .ok (.aload_n 0, 1) := by decide +kernel
theorem dX5_send_60 : decode cX5_send 60 = .ok (.getfield 22, 3) := by decide +kernel
theorem dX5_send_63 : decode cX5_send 63 = .ok (.iload 5, 2) := by decide +kernel
theorem dX5_send_65 : decode cX5_send 65 = .ok (.iload_n 1, 1) := by decide +kernel
theorem dX5_send_66 : decode cX5_send 66 = .ok (.iastore, 1) := by decide +kernel
theorem dX5_send_67 : decode cX5_send 67 = .ok (.aload_n 0, 1) := by decide +kernel
theorem dX5_send_68 : decode cX5_send 68 = .ok (.getfield 19, 3) := by decide +kernel
theorem dX5_send_71 : decode cX5_send 71 = .ok (.iload 5, 2) := by decide +kernel
theorem dX5_send_73 : decode cX5_send 73 = .ok (.dup2, 1) := by decide +kernel
theorem dX5_send_74 : decode cX5_send 74 = .ok (.iaload, 1) := by decide +kernel
theorem dX5_send_75 : decode cX5_send 75 = .ok (.iconst 1, 1) := by decide +kernel
theorem dX5_send_76 : decode cX5_send 76 = .ok (.iadd, 1) := by decide +kernel
theorem dX5_send_77 : decode cX5_send 77 = .ok (.iastore, 1) := by decide +kernel
theorem dX5_send_78 : decode cX5_send 78 = .ok (.iinc 3 1, 3) := by decide +kernel
theorem dX5_send_81 : decode cX5_send 81 = .ok (.iinc 4 1, 3) := by decide +kernel
theorem dX5_send_84 : decode cX5_send 84 = .ok (.goto (-73), 3) := by decide +kernel
theorem dX5_send_87 : decode cX5_send 87 = .ok (.aload_n 0, 1) := by decide +kernel
theorem dX5_send_88 : decode cX5_send 88 = .ok (.getfield 15, 3) := by decide +kernel
theorem dX5_send_91 : decode cX5_send 91 = .ok (.iload_n 1, 1) := by decide +kernel
theorem dX5_send_92 : decode cX5_send 92 = .ok (.iload_n 3, 1) := by decide +kernel
theorem dX5_send_93 : decode cX5_send 93 = .ok (.iastore, 1) := by decide +kernel
theorem dX5_send_94 : decode cX5_send 94 = .ok (.aload_n 0, 1) := by decide +kernel
theorem dX5_send_95 : decode cX5_send 95 = .ok (.dup, 1) := by decide +kernel
theorem dX5_send_96 : decode cX5_send 96 = .ok (.getfield 79, 3) := by decide +kernel
theorem dX5_send_99 : decode cX5_send 99 = .ok (.iload_n 3, 1) := by decide +kernel
theorem dX5_send_100 : decode cX5_send 100 = .ok (.iadd, 1) := by decide +kernel
theorem dX5_send_101 : decode cX5_send 101 = .ok (.putfield 79, 3) := by decide +kernel
theorem dX5_send_104 : decode cX5_send 104 = .ok (.iconst 0, 1) := by decide +kernel
theorem dX5_send_105 : decode cX5_send 105 = .ok (.istore 4, 2) := by decide +kernel
theorem dX5_send_107 : decode cX5_send 107 = .ok (.iload 4, 2) := by decide +kernel
theorem dX5_send_109 : decode cX5_send 109 = .ok (.iload_n 2, 1) := by decide +kernel
theorem dX5_send_110 : decode cX5_send 110 = .ok (.if_icmp .ge 21, 3) := by decide +kernel
theorem dX5_send_113 : decode cX5_send 113 = .ok (.aload_n 0, 1) := by decide +kernel
theorem dX5_send_114 : decode cX5_send 114 = .ok (.aload_n 0, 1) := by decide +kernel
theorem dX5_send_115 : decode cX5_send 115 = .ok (.getfield 25, 3) := by decide +kernel
theorem dX5_send_118 : decode cX5_send 118 = .ok (.iload 4, 2) := by decide +kernel
theorem dX5_send_120 : decode cX5_send 120 = .ok (.iaload, 1) := by decide +kernel
theorem dX5_send_121 : decode cX5_send 121 = .ok (.iload_n 1, 1) := by decide +kernel
theorem dX5_send_122 : decode cX5_send 122 = .ok (.invokevirtual 185, 3) := by decide +kernel
theorem dX5_send_125 : decode cX5_send 125 = .ok (.iinc 4 1, 3) := by decide +kernel
theorem dX5_send_128 : decode cX5_send 128 = .ok (.goto (-21), 3) := by decide +kernel
theorem dX5_send_131 : decode cX5_send 131 = .ok (.return_, 1) := by decide +kernel
theorem dX5_lineUp_0 : decode cX5_lineUp 0 = .ok (.iconst 0, 1) := by decide +kernel
theorem dX5_lineUp_1 : decode cX5_lineUp 1 = .ok (.istore_n 2, 1) := by decide +kernel
theorem dX5_lineUp_2 : decode cX5_lineUp 2 = .ok (.iconst 0, 1) := by decide +kernel
theorem dX5_lineUp_3 : decode cX5_lineUp 3 = .ok (.istore_n 3, 1) := by decide +kernel
theorem dX5_lineUp_4 : decode cX5_lineUp 4 = .ok (.iload_n 3, 1) := by decide +kernel
theorem dX5_lineUp_5 : decode cX5_lineUp 5 = .ok (.aload_n 0, 1) := by decide +kernel
theorem dX5_lineUp_6 : decode cX5_lineUp 6 = .ok (.getfield 31, 3) := by decide +kernel
theorem dX5_lineUp_9 : decode cX5_lineUp 9 = .ok (.getfield 82, 3) := by decide +kernel
theorem dX5_lineUp_12 : decode cX5_lineUp 12 = .ok (.if_icmp .ge 107, 3) := by decide +kernel
theorem dX5_lineUp_15 : decode cX5_lineUp 15 = .ok (.aload_n 0, 1) := by decide +kernel
theorem dX5_lineUp_16 : decode cX5_lineUp 16 = .ok (.getfield 31, 3) := by decide +kernel
theorem dX5_lineUp_19 : decode cX5_lineUp 19 = .ok (.getfield 85, 3) := by decide +kernel
theorem dX5_lineUp_22 : decode cX5_lineUp 22 = .ok (.iload_n 3, 1) := by decide +kernel
theorem dX5_lineUp_23 : decode cX5_lineUp 23 = .ok (.aaload, 1) := by decide +kernel
theorem dX5_lineUp_24 : decode cX5_lineUp 24 = .ok (.astore 4, 2) := by decide +kernel
theorem dX5_lineUp_26 : decode cX5_lineUp 26 = .ok (.aload 4, 2) := by decide +kernel
theorem dX5_lineUp_28 : decode cX5_lineUp 28 = .ok (.getfield 99, 3) := by decide +kernel
theorem dX5_lineUp_31 : decode cX5_lineUp 31 = .ok (.iconst 2, 1) := by decide +kernel
theorem dX5_lineUp_32 : decode cX5_lineUp 32 = .ok (.if_icmp .ne 81, 3) := by decide +kernel
theorem dX5_lineUp_35 : decode cX5_lineUp 35 = .ok (.aload 4, 2) := by decide +kernel
theorem dX5_lineUp_37 : decode cX5_lineUp 37 = .ok (.getfield 188, 3) := by decide +kernel
theorem dX5_lineUp_40 : decode cX5_lineUp 40 = .ok (.iload_n 1, 1) := by decide +kernel
theorem dX5_lineUp_41 : decode cX5_lineUp 41 = .ok (.if_icmp .gt 72, 3) := by decide +kernel
theorem dX5_lineUp_44 : decode cX5_lineUp 44 = .ok (.iload_n 2, 1) := by decide +kernel
theorem dX5_lineUp_45 : decode cX5_lineUp 45 = .ok (.istore 5, 2) := by decide +kernel
theorem dX5_lineUp_47 : decode cX5_lineUp 47 = .ok (.iload 5, 2) := by decide +kernel
theorem dX5_lineUp_49 : decode cX5_lineUp 49 = .ok (.ifCond .le 53, 3) := by decide +kernel
theorem dX5_lineUp_52 : decode cX5_lineUp 52 = .ok (.aload_n 0, 1) := by decide +kernel
theorem dX5_lineUp_53 : decode cX5_lineUp 53 = .ok (.getfield 31, 3) := by decide +kernel
theorem dX5_lineUp_56 : decode cX5_lineUp 56 = .ok (.getfield 85, 3) := by decide +kernel
theorem dX5_lineUp_59 : decode cX5_lineUp 59 = .ok (.aload_n 0, 1) := by decide +kernel
theorem dX5_lineUp_60 : decode cX5_lineUp 60 = .ok (.getfield 25, 3) := by decide +kernel
theorem dX5_lineUp_63 : decode cX5_lineUp 63 = .ok (.iload 5, 2) := by decide +kernel
theorem dX5_lineUp_65 : decode cX5_lineUp 65 = .ok (.iconst 1, 1) := by decide +kernel
theorem dX5_lineUp_66 : decode cX5_lineUp 66 = .ok (.isub, 1) := by decide +kernel
theorem dX5_lineUp_67 : decode cX5_lineUp 67 = .ok (.iaload, 1) := by decide +kernel
theorem dX5_lineUp_68 : decode cX5_lineUp 68 = .ok (.aaload, 1) := by decide +kernel
theorem dX5_lineUp_69 : decode cX5_lineUp 69 = .ok (.getfield 188, 3) := by decide +kernel
theorem dX5_lineUp_72 : decode cX5_lineUp 72 = .ok (.aload 4, 2) := by decide +kernel
theorem dX5_lineUp_74 : decode cX5_lineUp 74 = .ok (.getfield 188, 3) := by decide +kernel
theorem dX5_lineUp_77 : decode cX5_lineUp 77 = .ok (.if_icmp .le 25, 3) := by decide +kernel
theorem dX5_lineUp_80 : decode cX5_lineUp 80 = .ok (.aload_n 0, 1) := by decide +kernel
theorem dX5_lineUp_81 : decode cX5_lineUp 81 = .ok (.getfield 25, 3) := by decide +kernel
theorem dX5_lineUp_84 : decode cX5_lineUp 84 = .ok (.iload 5, 2) := by decide +kernel
theorem dX5_lineUp_86 : decode cX5_lineUp 86 = .ok (.aload_n 0, 1) := by decide +kernel
theorem dX5_lineUp_87 : decode cX5_lineUp 87 = .ok (.getfield 25, 3) := by decide +kernel
theorem dX5_lineUp_90 : decode cX5_lineUp 90 = .ok (.iload 5, 2) := by decide +kernel
theorem dX5_lineUp_92 : decode cX5_lineUp 92 = .ok (.iconst 1, 1) := by decide +kernel
theorem dX5_lineUp_93 : decode cX5_lineUp 93 = .ok (.isub, 1) := by decide +kernel
theorem dX5_lineUp_94 : decode cX5_lineUp 94 = .ok (.iaload, 1) := by decide +kernel
theorem dX5_lineUp_95 : decode cX5_lineUp 95 = .ok (.iastore, 1) := by decide +kernel
theorem dX5_lineUp_96 : decode cX5_lineUp 96 = .ok (.iinc 5 (-1), 3) := by decide +kernel
theorem dX5_lineUp_99 : decode cX5_lineUp 99 = .ok (.goto (-52), 3) := by decide +kernel
theorem dX5_lineUp_102 : decode cX5_lineUp 102 = .ok (.aload_n 0, 1) := by decide +kernel
theorem dX5_lineUp_103 : decode cX5_lineUp 103 = .ok (.getfield 25, 3) := by decide +kernel
theorem dX5_lineUp_106 : decode cX5_lineUp 106 = .ok (.iload 5, 2) := by decide +kernel
theorem dX5_lineUp_108 : decode cX5_lineUp 108 = .ok (.iload_n 3, 1) := by decide +kernel
theorem dX5_lineUp_109 : decode cX5_lineUp 109 = .ok (.iastore, 1) := by decide +kernel
theorem dX5_lineUp_110 : decode cX5_lineUp 110 = .ok (.iinc 2 1, 3) := by decide +kernel
theorem dX5_lineUp_113 : decode cX5_lineUp 113 = .ok (.iinc 3 1, 3) := by decide +kernel
theorem dX5_lineUp_116 : decode cX5_lineUp 116 = .ok (.goto (-112), 3) := by decide +kernel
theorem dX5_lineUp_119 : decode cX5_lineUp 119 = .ok (.iload_n 2, 1) := by decide +kernel
theorem dX5_lineUp_120 : decode cX5_lineUp 120 = .ok (.ireturn, 1) := by decide +kernel
theorem dX5_wantedBlock_0 : decode cX5_wantedBlock 0 = .ok (.aload_n 0, 1) := by decide +kernel
theorem dX5_wantedBlock_1 : decode cX5_wantedBlock 1 = .ok (.getfield 191, 3) := by decide +kernel
theorem dX5_wantedBlock_4 : decode cX5_wantedBlock 4 = .ok (.bipush 12, 2) := by decide +kernel
theorem dX5_wantedBlock_6 : decode cX5_wantedBlock 6 = .ok (.imul, 1) := by decide +kernel
theorem dX5_wantedBlock_7 : decode cX5_wantedBlock 7 = .ok (.aload_n 0, 1) := by decide +kernel
theorem dX5_wantedBlock_8 : decode cX5_wantedBlock 8 = .ok (.getfield 194, 3) := by decide +kernel
theorem dX5_wantedBlock_11 : decode cX5_wantedBlock 11 = .ok (.iadd, 1) := by decide +kernel
theorem dX5_wantedBlock_12 : decode cX5_wantedBlock 12 = .ok (.ireturn, 1) := by decide +kernel
theorem dX5_receive_0 : decode cX5_receive 0 = .ok (.aload_n 0, 1) := by decide +kernel
theorem dX5_receive_1 : decode cX5_receive 1 = .ok (.getfield 31, 3) := by decide +kernel
theorem dX5_receive_4 : decode cX5_receive 4 = .ok (.getfield 85, 3) := by decide +kernel
theorem dX5_receive_7 : decode cX5_receive 7 = .ok (.iload_n 1, 1) := by decide +kernel
theorem dX5_receive_8 : decode cX5_receive 8 = .ok (.aaload, 1) := by decide +kernel
theorem dX5_receive_9 : decode cX5_receive 9 = .ok (.astore_n 3, 1) := by decide +kernel
theorem dX5_receive_10 : decode cX5_receive 10 = .ok (.aload_n 3, 1) := by decide +kernel
theorem dX5_receive_11 : decode cX5_receive 11 = .ok (.invokestatic 181, 3) := by decide +kernel
theorem dX5_receive_14 : decode cX5_receive 14 = .ok (.istore 4, 2) := by decide +kernel
theorem dX5_receive_16 : decode cX5_receive 16 = .ok (.aload_n 0, 1) := by decide +kernel
theorem dX5_receive_17 : decode cX5_receive 17 = .ok (.getfield 22, 3) := by decide +kernel
theorem dX5_receive_20 : decode cX5_receive 20 = .ok (.iload 4, 2) := by decide +kernel
theorem dX5_receive_22 : decode cX5_receive 22 = .ok (.iaload, 1) := by decide +kernel
theorem dX5_receive_23 : decode cX5_receive 23 = .ok (.iload_n 2, 1) := by decide +kernel
theorem dX5_receive_24 : decode cX5_receive 24 = .ok (.if_icmp .ne 18, 3) := by decide +kernel
theorem dX5_receive_27 : decode cX5_receive 27 = .ok (.aload_n 0, 1) := by decide +kernel
theorem dX5_receive_28 : decode cX5_receive 28 = .ok (.getfield 31, 3) := by decide +kernel
theorem dX5_receive_31 : decode cX5_receive 31 = .ok (.getfield 59, 3) := by decide +kernel
theorem dX5_receive_34 : decode cX5_receive 34 = .ok (.iload_n 1, 1) := by decide +kernel
theorem dX5_receive_35 : decode cX5_receive 35 = .ok (.iload_n 2, 1) := by decide +kernel
theorem dX5_receive_36 : decode cX5_receive 36 = .ok (.invokevirtual 121, 3) := by decide +kernel
theorem dX5_receive_39 : decode cX5_receive 39 = .ok (.ifCond .eq 10, 3) := by decide +kernel
theorem dX5_receive_42 : decode cX5_receive 42 = .ok (.aload_n 3, 1) := by decide +kernel
theorem dX5_receive_43 : decode cX5_receive 43 = .ok (.invokevirtual 197, 3) := by decide +kernel
theorem dX5_receive_46 : decode cX5_receive 46 = .ok (.goto 68, 3) := by decide +kernel
theorem dX5_receive_49 : decode cX5_receive 49 = .ok (.aload_n 0, 1) := by decide +kernel
theorem dX5_receive_50 : decode cX5_receive 50 = .ok (.getfield 31, 3) := by decide +kernel
theorem dX5_receive_53 : decode cX5_receive 53 = .ok (.getfield 59, 3) := by decide +kernel
theorem dX5_receive_56 : decode cX5_receive 56 = .ok (.iload 4, 2) := by decide +kernel
theorem dX5_receive_58 : decode cX5_receive 58 = .ok (.iload_n 2, 1) := by decide +kernel
theorem dX5_receive_59 : decode cX5_receive 59 = .ok (.invokevirtual 200, 3) := by decide +kernel
theorem dX5_receive_62 : decode cX5_receive 62 = .ok (.ifCond .eq 10, 3) := by decide +kernel
theorem dX5_receive_65 : decode cX5_receive 65 = .ok (.aload_n 3, 1) := by decide +kernel
theorem dX5_receive_66 : decode cX5_receive 66 = .ok (.invokevirtual 203, 3) := by decide +kernel
theorem dX5_receive_69 : decode cX5_receive 69 = .ok (.goto 45, 3) := by decide +kernel
theorem dX5_receive_72 : decode cX5_receive 72 = .ok (.aload_n 3, 1) := by decide +kernel
theorem dX5_receive_73 : decode cX5_receive 73 = .ok (.iconst 0, 1) := by decide +kernel
theorem dX5_receive_74 : decode cX5_receive 74 = .ok (.putfield 206, 3) := by decide +kernel
theorem dX5_receive_77 : decode cX5_receive 77 = .ok (.aload_n 3, 1) := by decide +kernel
theorem dX5_receive_78 : decode cX5_receive 78 = .ok (.dup, 1) := by decide +kernel
theorem dX5_receive_79 : decode cX5_receive 79 = .ok (.getfield 194, 3) := by decide +kernel
theorem dX5_receive_82 : decode cX5_receive 82 = .ok (.iconst 1, 1) := by decide +kernel
theorem dX5_receive_83 : decode cX5_receive 83 = .ok (.iadd, 1) := by decide +kernel
theorem dX5_receive_84 : decode cX5_receive 84 = .ok (.putfield 194, 3) := by decide +kernel
theorem dX5_receive_87 : decode cX5_receive 87 = .ok (.aload_n 3, 1) := by decide +kernel
theorem dX5_receive_88 : decode cX5_receive 88 = .ok (.getfield 194, 3) := by decide +kernel
theorem dX5_receive_91 : decode cX5_receive 91 = .ok (.aload_n 0, 1) := by decide +kernel
theorem dX5_receive_92 : decode cX5_receive 92 = .ok (.getfield 31, 3) := by decide +kernel
theorem dX5_receive_95 : decode cX5_receive 95 = .ok (.getfield 209, 3) := by decide +kernel
theorem dX5_receive_98 : decode cX5_receive 98 = .ok (.aload_n 3, 1) := by decide +kernel
theorem dX5_receive_99 : decode cX5_receive 99 = .ok (.getfield 191, 3) := by decide +kernel
theorem dX5_receive_102 : decode cX5_receive 102 = .ok (.iaload, 1) := by decide +kernel
theorem dX5_receive_103 : decode cX5_receive 103 = .ok (.if_icmp .lt 11, 3) := by decide +kernel
theorem dX5_receive_106 : decode cX5_receive 106 = .ok (.aload_n 0, 1) := by decide +kernel
theorem dX5_receive_107 : decode cX5_receive 107 = .ok (.aload_n 3, 1) := by decide +kernel
theorem dX5_receive_108 : decode cX5_receive 108 = .ok (.iload_n 2, 1) := by decide +kernel
theorem dX5_receive_109 : decode cX5_receive 109 = .ok (.iconst 1, 1) := by decide +kernel
theorem dX5_receive_110 : decode cX5_receive 110 = .ok (.iadd, 1) := by decide +kernel
theorem dX5_receive_111 : decode cX5_receive 111 = .ok (.invokevirtual 212, 3) := by decide +kernel
theorem dX5_receive_114 : decode cX5_receive 114 = .ok (.return_, 1) := by decide +kernel
theorem dX5_goOn_0 : decode cX5_goOn 0 = .ok (.aload_n 0, 1) := by decide +kernel
theorem dX5_goOn_1 : decode cX5_goOn 1 = .ok (.getfield 31, 3) := by decide +kernel
theorem dX5_goOn_4 : decode cX5_goOn 4 = .ok (.getfield 216, 3) := by decide +kernel
theorem dX5_goOn_7 : decode cX5_goOn 7 = .ok (.aload_n 1, 1) := by decide +kernel
theorem dX5_goOn_8 : decode cX5_goOn 8 = .ok (.getfield 191, 3) := by decide +kernel
theorem dX5_goOn_11 : decode cX5_goOn 11 = .ok (.iaload, 1) := by decide +kernel
theorem dX5_goOn_12 : decode cX5_goOn 12 = .ok (.istore_n 3, 1) := by decide +kernel
theorem dX5_goOn_13 : decode cX5_goOn 13 = .ok (.aload_n 1, 1) := by decide +kernel
theorem dX5_goOn_14 : decode cX5_goOn 14 = .ok (.getfield 219, 3) := by decide +kernel
theorem dX5_goOn_17 : decode cX5_goOn 17 = .ok (.iconst 1, 1) := by decide +kernel
theorem dX5_goOn_18 : decode cX5_goOn 18 = .ok (.iadd, 1) := by decide +kernel
theorem dX5_goOn_19 : decode cX5_goOn 19 = .ok (.istore 4, 2) := by decide +kernel
theorem dX5_goOn_21 : decode cX5_goOn 21 = .ok (.iload_n 3, 1) := by decide +kernel
theorem dX5_goOn_22 : decode cX5_goOn 22 = .ok (.iconst (-1), 1) := by decide +kernel
theorem dX5_goOn_23 : decode cX5_goOn 23 = .ok (.if_icmp .ne 11, 3) := by decide +kernel
theorem dX5_goOn_26 : decode cX5_goOn 26 = .ok (.aload_n 1, 1) := by decide +kernel
theorem dX5_goOn_27 : decode cX5_goOn 27 = .ok (.iload_n 2, 1) := by decide +kernel
theorem dX5_goOn_28 : decode cX5_goOn 28 = .ok (.invokevirtual 222, 3) := by decide +kernel
theorem dX5_goOn_31 : decode cX5_goOn 31 = .ok (.goto 36, 3) := by decide +kernel
theorem dX5_goOn_34 : decode cX5_goOn 34 = .ok (.iload 4, 2) := by decide +kernel
theorem dX5_goOn_36 : decode cX5_goOn 36 = .ok (.iconst 4, 1) := by decide +kernel
theorem dX5_goOn_37 : decode cX5_goOn 37 = .ok (.if_icmp .ge 14, 3) := by decide +kernel
theorem dX5_goOn_40 : decode cX5_goOn 40 = .ok (.iload_n 3, 1) := by decide +kernel
theorem dX5_goOn_41 : decode cX5_goOn 41 = .ok (.aload_n 0, 1) := by decide +kernel
theorem dX5_goOn_42 : decode cX5_goOn 42 = .ok (.getfield 31, 3) := by decide +kernel
theorem dX5_goOn_45 : decode cX5_goOn 45 = .ok (.getfield 144, 3) := by decide +kernel
theorem dX5_goOn_48 : decode cX5_goOn 48 = .ok (.if_icmp .lt 11, 3) := by decide +kernel
theorem dX5_goOn_51 : decode cX5_goOn 51 = .ok (.aload_n 1, 1) := by decide +kernel
theorem dX5_goOn_52 : decode cX5_goOn 52 = .ok (.iconst 5, 1) := by decide +kernel
theorem dX5_goOn_53 : decode cX5_goOn 53 = .ok (.invokevirtual 223, 3) := by decide +kernel
theorem dX5_goOn_56 : decode cX5_goOn 56 = .ok (.goto 11, 3) := by decide +kernel
theorem dX5_goOn_59 : decode cX5_goOn 59 = .ok (.aload_n 1, 1) := by decide +kernel
theorem dX5_goOn_60 : decode cX5_goOn 60 = .ok (.iload_n 3, 1) := by decide +kernel
theorem dX5_goOn_61 : decode cX5_goOn 61 = .ok (.iload 4, 2) := by decide +kernel
theorem dX5_goOn_63 : decode cX5_goOn 63 = .ok (.iload_n 2, 1) := by decide +kernel
theorem dX5_goOn_64 : decode cX5_goOn 64 = .ok (.invokevirtual 164, 3) := by decide +kernel
theorem dX5_goOn_67 : decode cX5_goOn 67 = .ok (.return_, 1) := by decide +kernel
theorem dX5_install_0 : decode cX5_install 0 = .ok (.iconst 0, 1) := by decide +kernel
theorem dX5_install_1 : decode cX5_install 1 = .ok (.istore_n 2, 1) := by decide +kernel
theorem dX5_install_2 : decode cX5_install 2 = .ok (.iload_n 2, 1) := by decide +kernel
theorem dX5_install_3 : decode cX5_install 3 = .ok (.aload_n 0, 1) := by decide +kernel
theorem dX5_install_4 : decode cX5_install 4 = .ok (.getfield 31, 3) := by decide +kernel
theorem dX5_install_7 : decode cX5_install 7 = .ok (.getfield 82, 3) := by decide +kernel
theorem dX5_install_10 : decode cX5_install 10 = .ok (.if_icmp .ge 51, 3) := by decide +kernel
theorem dX5_install_13 : decode cX5_install 13 = .ok (.aload_n 0, 1) := by decide +kernel
theorem dX5_install_14 : decode cX5_install 14 = .ok (.getfield 31, 3) := by decide +kernel
theorem dX5_install_17 : decode cX5_install 17 = .ok (.getfield 85, 3) := by decide +kernel
theorem dX5_install_20 : decode cX5_install 20 = .ok (.iload_n 2, 1) := by decide +kernel
theorem dX5_install_21 : decode cX5_install 21 = .ok (.aaload, 1) := by decide +kernel
theorem dX5_install_22 : decode cX5_install 22 = .ok (.astore_n 3, 1) := by decide +kernel
theorem dX5_install_23 : decode cX5_install 23 = .ok (.aload_n 3, 1) := by decide +kernel
theorem dX5_install_24 : decode cX5_install 24 = .ok (.getfield 99, 3) := by decide +kernel
theorem dX5_install_27 : decode cX5_install 27 = .ok (.iconst 3, 1) := by decide +kernel
theorem dX5_install_28 : decode cX5_install 28 = .ok (.if_icmp .ne 27, 3) := by decide +kernel
theorem dX5_install_31 : decode cX5_install 31 = .ok (.aload_n 3, 1) := by decide +kernel
theorem dX5_install_32 : decode cX5_install 32 = .ok (.getfield 188, 3) := by decide +kernel
theorem dX5_install_35 : decode cX5_install 35 = .ok (.iload_n 1, 1) := by decide +kernel
theorem dX5_install_36 : decode cX5_install 36 = .ok (.if_icmp .gt 19, 3) := by decide +kernel
theorem dX5_install_39 : decode cX5_install 39 = .ok (.aload_n 3, 1) := by decide +kernel
theorem dX5_install_40 : decode cX5_install 40 = .ok (.aload_n 0, 1) := by decide +kernel
theorem dX5_install_41 : decode cX5_install 41 = .ok (.getfield 31, 3) := by decide +kernel
theorem dX5_install_44 : decode cX5_install 44 = .ok (.getfield 209, 3) := by decide +kernel
theorem dX5_install_47 : decode cX5_install 47 = .ok (.aload_n 3, 1) := by decide +kernel
theorem dX5_install_48 : decode cX5_install 48 = .ok (.getfield 191, 3) := by decide +kernel
theorem dX5_install_51 : decode cX5_install 51 = .ok (.iaload, 1) := by decide +kernel
theorem dX5_install_52 : decode cX5_install 52 = .ok (.invokevirtual 226, 3) := by decide +kernel
theorem dX5_install_55 : decode cX5_install 55 = .ok (.iinc 2 1, 3) := by decide +kernel
theorem dX5_install_58 : decode cX5_install 58 = .ok (.goto (-56), 3) := by decide +kernel
theorem dX5_install_61 : decode cX5_install 61 = .ok (.return_, 1) := by decide +kernel
theorem dX5_isSettled_0 : decode cX5_isSettled 0 = .ok (.iconst 0, 1) := by decide +kernel
theorem dX5_isSettled_1 : decode cX5_isSettled 1 = .ok (.istore_n 1, 1) := by decide +kernel
theorem dX5_isSettled_2 : decode cX5_isSettled 2 = .ok (.iload_n 1, 1) := by decide +kernel
theorem dX5_isSettled_3 : decode cX5_isSettled 3 = .ok (.aload_n 0, 1) := by decide +kernel
theorem dX5_isSettled_4 : decode cX5_isSettled 4 = .ok (.getfield 31, 3) := by decide +kernel
theorem dX5_isSettled_7 : decode cX5_isSettled 7 = .ok (.getfield 82, 3) := by decide +kernel
theorem dX5_isSettled_10 : decode cX5_isSettled 10 = .ok (.if_icmp .ge 26, 3) := by decide +kernel
theorem dX5_isSettled_13 : decode cX5_isSettled 13 = .ok (.aload_n 0, 1) := by decide +kernel
theorem dX5_isSettled_14 : decode cX5_isSettled 14 = .ok (.getfield 31, 3) := by decide +kernel
theorem dX5_isSettled_17 : decode cX5_isSettled 17 = .ok (.getfield 85, 3) := by decide +kernel
theorem dX5_isSettled_20 : decode cX5_isSettled 20 = .ok (.iload_n 1, 1) := by decide +kernel
theorem dX5_isSettled_21 : decode cX5_isSettled 21 = .ok (.aaload, 1) := by decide +kernel
theorem dX5_isSettled_22 : decode cX5_isSettled 22 = .ok (.invokevirtual 229, 3) := by decide +kernel
theorem dX5_isSettled_25 : decode cX5_isSettled 25 = .ok (.ifCond .ne 5, 3) := by decide +kernel
theorem dX5_isSettled_28 : decode cX5_isSettled 28 = .ok (.iconst 0, 1) := by decide +kernel
theorem dX5_isSettled_29 : decode cX5_isSettled 29 = .ok (.ireturn, 1) := by decide +kernel
theorem dX5_isSettled_30 : decode cX5_isSettled 30 = .ok (.iinc 1 1, 3) := by decide +kernel
theorem dX5_isSettled_33 : decode cX5_isSettled 33 = .ok (.goto (-31), 3) := by decide +kernel
theorem dX5_isSettled_36 : decode cX5_isSettled 36 = .ok (.iconst 1, 1) := by decide +kernel
theorem dX5_isSettled_37 : decode cX5_isSettled 37 = .ok (.ireturn, 1) := by decide +kernel
theorem dX5_keep_0 : decode cX5_keep 0 = .ok (.iconst 0, 1) := by decide +kernel
theorem dX5_keep_1 : decode cX5_keep 1 = .ok (.istore_n 2, 1) := by decide +kernel
theorem dX5_keep_2 : decode cX5_keep 2 = .ok (.iload_n 2, 1) := by decide +kernel
theorem dX5_keep_3 : decode cX5_keep 3 = .ok (.aload_n 0, 1) := by decide +kernel
theorem dX5_keep_4 : decode cX5_keep 4 = .ok (.getfield 31, 3) := by decide +kernel
theorem dX5_keep_7 : decode cX5_keep 7 = .ok (.getfield 82, 3) := by decide +kernel
theorem dX5_keep_10 : decode cX5_keep 10 = .ok (.if_icmp .ge 33, 3) := by decide +kernel
theorem dX5_keep_13 : decode cX5_keep 13 = .ok (.aload_n 0, 1) := by decide +kernel
theorem dX5_keep_14 : decode cX5_keep 14 = .ok (.getfield 9, 3) := by decide +kernel
theorem dX5_keep_17 : decode cX5_keep 17 = .ok (.iload_n 2, 1) := by decide +kernel
theorem dX5_keep_18 : decode cX5_keep 18 = .ok (.sipush 300, 3) := by decide +kernel
theorem dX5_keep_21 : decode cX5_keep 21 = .ok (.imul, 1) := by decide +kernel
theorem dX5_keep_22 : decode cX5_keep 22 = .ok (.iload_n 1, 1) := by decide +kernel
theorem dX5_keep_23 : decode cX5_keep 23 = .ok (.iadd, 1) := by decide +kernel
theorem dX5_keep_24 : decode cX5_keep 24 = .ok (.aload_n 0, 1) := by decide +kernel
theorem dX5_keep_25 : decode cX5_keep 25 = .ok (.getfield 31, 3) := by decide +kernel
theorem dX5_keep_28 : decode cX5_keep 28 = .ok (.getfield 85, 3) := by decide +kernel
theorem dX5_keep_31 : decode cX5_keep 31 = .ok (.iload_n 2, 1) := by decide +kernel
theorem dX5_keep_32 : decode cX5_keep 32 = .ok (.aaload, 1) := by decide +kernel
theorem dX5_keep_33 : decode cX5_keep 33 = .ok (.invokevirtual 230, 3) := by decide +kernel
theorem dX5_keep_36 : decode cX5_keep 36 = .ok (.lastore, 1) := by decide +kernel
theorem dX5_keep_37 : decode cX5_keep 37 = .ok (.iinc 2 1, 3) := by decide +kernel
theorem dX5_keep_40 : decode cX5_keep 40 = .ok (.goto (-38), 3) := by decide +kernel
theorem dX5_keep_43 : decode cX5_keep 43 = .ok (.return_, 1) := by decide +kernel
theorem dX5_recorded_0 : decode cX5_recorded 0 = .ok (.getstatic 234, 3) := by decide +kernel
theorem dX5_recorded_3 : decode cX5_recorded 3 = .ok (.iload_n 3, 1) := by decide +kernel
theorem dX5_recorded_4 : decode cX5_recorded 4 = .ok (.iconst 1, 1) := by decide +kernel
theorem dX5_recorded_5 : decode cX5_recorded 5 = .ok (.iadd, 1) := by decide +kernel
theorem dX5_recorded_6 : decode cX5_recorded 6 = .ok (.iaload, 1) := by decide +kernel
theorem dX5_recorded_7 : decode cX5_recorded 7 = .ok (.getstatic 234, 3) := by decide +kernel
theorem dX5_recorded_10 : decode cX5_recorded 10 = .ok (.iload_n 3, 1) := by decide +kernel
theorem dX5_recorded_11 : decode cX5_recorded 11 = .ok (.iaload, 1) := by decide +kernel
theorem dX5_recorded_12 : decode cX5_recorded 12 = .ok (.isub, 1) := by decide +kernel
theorem dX5_recorded_13 : decode cX5_recorded 13 = .ok (.istore 4, 2) := by decide +kernel
theorem dX5_recorded_15 : decode cX5_recorded 15 = .ok (.aload_n 0, 1) := by decide +kernel
theorem dX5_recorded_16 : decode cX5_recorded 16 = .ok (.getfield 9, 3) := by decide +kernel
theorem dX5_recorded_19 : decode cX5_recorded 19 = .ok (.iload_n 1, 1) := by decide +kernel
theorem dX5_recorded_20 : decode cX5_recorded 20 = .ok (.sipush 300, 3) := by decide +kernel
theorem dX5_recorded_23 : decode cX5_recorded 23 = .ok (.imul, 1) := by decide +kernel
theorem dX5_recorded_24 : decode cX5_recorded 24 = .ok (.iload_n 2, 1) := by decide +kernel
theorem dX5_recorded_25 : decode cX5_recorded 25 = .ok (.iadd, 1) := by decide +kernel
theorem dX5_recorded_26 : decode cX5_recorded 26 = .ok (.laload, 1) := by decide +kernel
theorem dX5_recorded_27 : decode cX5_recorded 27 = .ok (.getstatic 234, 3) := by decide +kernel
theorem dX5_recorded_30 : decode cX5_recorded 30 = .ok (.iload_n 3, 1) := by decide +kernel
theorem dX5_recorded_31 : decode cX5_recorded 31 = .ok (.iaload, 1) := by decide +kernel
theorem dX5_recorded_32 : decode cX5_recorded 32 = .ok (.lushr, 1) := by decide +kernel
theorem dX5_recorded_33 : decode cX5_recorded 33 = .ok (.l2i, 1) := by decide +kernel
theorem dX5_recorded_34 : decode cX5_recorded 34 = .ok (.iconst 1, 1) := by decide +kernel
theorem dX5_recorded_35 : decode cX5_recorded 35 = .ok (.iload 4, 2) := by decide +kernel
theorem dX5_recorded_37 : decode cX5_recorded 37 = .ok (.ishl, 1) := by decide +kernel
theorem dX5_recorded_38 : decode cX5_recorded 38 = .ok (.iconst 1, 1) := by decide +kernel
theorem dX5_recorded_39 : decode cX5_recorded 39 = .ok (.isub, 1) := by decide +kernel
theorem dX5_recorded_40 : decode cX5_recorded 40 = .ok (.iand, 1) := by decide +kernel
theorem dX5_recorded_41 : decode cX5_recorded 41 = .ok (.istore 5, 2) := by decide +kernel
theorem dX5_recorded_43 : decode cX5_recorded 43 = .ok (.iload 5, 2) := by decide +kernel
theorem dX5_recorded_45 : decode cX5_recorded 45 = .ok (.iconst 1, 1) := by decide +kernel
theorem dX5_recorded_46 : decode cX5_recorded 46 = .ok (.isub, 1) := by decide +kernel
theorem dX5_recorded_47 : decode cX5_recorded 47 = .ok (.ireturn, 1) := by decide +kernel
theorem dX5_answerAtEnd_0 : decode cX5_answerAtEnd 0 = .ok (.aload_n 0, 1) := by decide +kernel
theorem dX5_answerAtEnd_1 : decode cX5_answerAtEnd 1 = .ok (.aload_n 0, 1) := by decide +kernel
theorem dX5_answerAtEnd_2 : decode cX5_answerAtEnd 2 = .ok (.getfield 31, 3) := by decide +kernel
theorem dX5_answerAtEnd_5 : decode cX5_answerAtEnd 5 = .ok (.getfield 85, 3) := by decide +kernel
theorem dX5_answerAtEnd_8 : decode cX5_answerAtEnd 8 = .ok (.iload_n 2, 1) := by decide +kernel
theorem dX5_answerAtEnd_9 : decode cX5_answerAtEnd 9 = .ok (.aaload, 1) := by decide +kernel
theorem dX5_answerAtEnd_10 : decode cX5_answerAtEnd 10 = .ok (.aload_n 0, 1) := by decide +kernel
theorem dX5_answerAtEnd_11 : decode cX5_answerAtEnd 11 = .ok (.iload_n 2, 1) := by decide +kernel
theorem dX5_answerAtEnd_12 : decode cX5_answerAtEnd 12 = .ok (.iload_n 3, 1) := by decide +kernel
theorem dX5_answerAtEnd_13 : decode cX5_answerAtEnd 13 = .ok (.iconst 5, 1) := by decide +kernel
theorem dX5_answerAtEnd_14 : decode cX5_answerAtEnd 14 = .ok (.invokevirtual 237, 3) := by decide +kernel
theorem dX5_answerAtEnd_17 : decode cX5_answerAtEnd 17 = .ok (.aload_n 0, 1) := by decide +kernel
theorem dX5_answerAtEnd_18 : decode cX5_answerAtEnd 18 = .ok (.iload_n 2, 1) := by decide +kernel
theorem dX5_answerAtEnd_19 : decode cX5_answerAtEnd 19 = .ok (.iload_n 3, 1) := by decide +kernel
theorem dX5_answerAtEnd_20 : decode cX5_answerAtEnd 20 = .ok (.bipush 6, 2) := by decide +kernel
theorem dX5_answerAtEnd_22 : decode cX5_answerAtEnd 22 = .ok (.invokevirtual 237, 3) := by decide +kernel
theorem dX5_answerAtEnd_25 : decode cX5_answerAtEnd 25 = .ok (.aload_n 0, 1) := by decide +kernel
theorem dX5_answerAtEnd_26 : decode cX5_answerAtEnd 26 = .ok (.iload_n 2, 1) := by decide +kernel
theorem dX5_answerAtEnd_27 : decode cX5_answerAtEnd 27 = .ok (.iload_n 3, 1) := by decide +kernel
theorem dX5_answerAtEnd_28 : decode cX5_answerAtEnd 28 = .ok (.bipush 8, 2) := by decide +kernel
theorem dX5_answerAtEnd_30 : decode cX5_answerAtEnd 30 = .ok (.invokevirtual 237, 3) := by decide +kernel
theorem dX5_answerAtEnd_33 : decode cX5_answerAtEnd 33 = .ok (.iload_n 3, 1) := by decide +kernel
theorem dX5_answerAtEnd_34 : decode cX5_answerAtEnd 34 = .ok (.invokevirtual 133, 3) := by decide +kernel
theorem dX5_answerAtEnd_37 : decode cX5_answerAtEnd 37 = .ok (.aload_n 0, 1) := by decide +kernel
theorem dX5_answerAtEnd_38 : decode cX5_answerAtEnd 38 = .ok (.getfield 31, 3) := by decide +kernel
theorem dX5_answerAtEnd_41 : decode cX5_answerAtEnd 41 = .ok (.getfield 140, 3) := by decide +kernel
theorem dX5_answerAtEnd_44 : decode cX5_answerAtEnd 44 = .ok (.iload_n 1, 1) := by decide +kernel
theorem dX5_answerAtEnd_45 : decode cX5_answerAtEnd 45 = .ok (.aaload, 1) := by decide +kernel
theorem dX5_answerAtEnd_46 : decode cX5_answerAtEnd 46 = .ok (.aload_n 0, 1) := by decide +kernel
theorem dX5_answerAtEnd_47 : decode cX5_answerAtEnd 47 = .ok (.getfield 28, 3) := by decide +kernel
theorem dX5_answerAtEnd_50 : decode cX5_answerAtEnd 50 = .ok (.aload_n 0, 1) := by decide +kernel
theorem dX5_answerAtEnd_51 : decode cX5_answerAtEnd 51 = .ok (.getfield 31, 3) := by decide +kernel
theorem dX5_answerAtEnd_54 : decode cX5_answerAtEnd 54 = .ok (.getfield 144, 3) := by decide +kernel
theorem dX5_answerAtEnd_57 : decode cX5_answerAtEnd 57 = .ok (.invokevirtual 147, 3) := by decide +kernel
theorem dX5_answerAtEnd_60 : decode cX5_answerAtEnd 60 = .ok (.ireturn, 1) := by decide +kernel
theorem dX5_change_0 : decode cX5_change 0 = .ok (.iconst 0, 1) := by decide +kernel
theorem dX5_change_1 : decode cX5_change 1 = .ok (.istore_n 3, 1) := by decide +kernel
theorem dX5_change_2 : decode cX5_change 2 = .ok (.iconst 0, 1) := by decide +kernel
theorem dX5_change_3 : decode cX5_change 3 = .ok (.istore 4, 2) := by decide +kernel
theorem dX5_change_5 : decode cX5_change 5 = .ok (.iconst 0, 1) := by decide +kernel
theorem dX5_change_6 : decode cX5_change 6 = .ok (.istore 5, 2) := by decide +kernel
theorem dX5_change_8 : decode cX5_change 8 = .ok (.iload 5, 2) := by decide +kernel
theorem dX5_change_10 : decode cX5_change 10 = .ok (.sipush 300, 3) := by decide +kernel
theorem dX5_change_13 : decode cX5_change 13 = .ok (.if_icmp .ge 46, 3) := by decide +kernel
theorem dX5_change_16 : decode cX5_change 16 = .ok (.aload_n 0, 1) := by decide +kernel
theorem dX5_change_17 : decode cX5_change 17 = .ok (.iload_n 1, 1) := by decide +kernel
theorem dX5_change_18 : decode cX5_change 18 = .ok (.iload 5, 2) := by decide +kernel
theorem dX5_change_20 : decode cX5_change 20 = .ok (.iconst 0, 1) := by decide +kernel
theorem dX5_change_21 : decode cX5_change 21 = .ok (.invokevirtual 237, 3) := by decide +kernel
theorem dX5_change_24 : decode cX5_change 24 = .ok (.istore 6, 2) := by decide +kernel
theorem dX5_change_26 : decode cX5_change 26 = .ok (.iload 6, 2) := by decide +kernel
theorem dX5_change_28 : decode cX5_change 28 = .ok (.iload_n 3, 1) := by decide +kernel
theorem dX5_change_29 : decode cX5_change 29 = .ok (.if_icmp .eq 24, 3) := by decide +kernel
theorem dX5_change_32 : decode cX5_change 32 = .ok (.iload 4, 2) := by decide +kernel
theorem dX5_change_34 : decode cX5_change 34 = .ok (.iload_n 2, 1) := by decide +kernel
theorem dX5_change_35 : decode cX5_change 35 = .ok (.if_icmp .ne 12, 3) := by decide +kernel
theorem dX5_change_38 : decode cX5_change 38 = .ok (.bipush 10, 2) := by decide +kernel
theorem dX5_change_40 : decode cX5_change 40 = .ok (.iload 5, 2) := by decide +kernel
theorem dX5_change_42 : decode cX5_change 42 = .ok (.imul, 1) := by decide +kernel
theorem dX5_change_43 : decode cX5_change 43 = .ok (.iload 6, 2) := by decide +kernel
theorem dX5_change_45 : decode cX5_change 45 = .ok (.iadd, 1) := by decide +kernel
theorem dX5_change_46 : decode cX5_change 46 = .ok (.ireturn, 1) := by decide +kernel
theorem dX5_change_47 : decode cX5_change 47 = .ok (.iinc 4 1, 3) := by decide +kernel
theorem dX5_change_50 : decode cX5_change 50 = .ok (.iload 6, 2) := by decide +kernel
theorem dX5_change_52 : decode cX5_change 52 = .ok (.istore_n 3, 1) := by decide +kernel
theorem dX5_change_53 : decode cX5_change 53 = .ok (.iinc 5 1, 3) := by decide +kernel
theorem dX5_change_56 : decode cX5_change 56 = .ok (.goto (-48), 3) := by decide +kernel
theorem dX5_change_59 : decode cX5_change 59 = .ok (.iconst (-1), 1) := by decide +kernel
theorem dX5_change_60 : decode cX5_change 60 = .ok (.ireturn, 1) := by decide +kernel
theorem dX5_settledFrom_0 : decode cX5_settledFrom 0 = .ok (.aload_n 0, 1) := by decide +kernel
theorem dX5_settledFrom_1 : decode cX5_settledFrom 1 = .ok (.getfield 31, 3) := by decide +kernel
theorem dX5_settledFrom_4 : decode cX5_settledFrom 4 = .ok (.getfield 82, 3) := by decide +kernel
theorem dX5_settledFrom_7 : decode cX5_settledFrom 7 = .ok (.ifCond .ne 9, 3) := by decide +kernel
theorem dX5_settledFrom_10 : decode cX5_settledFrom 10 = .ok (.sipush 300, 3) := by decide +kernel
theorem dX5_settledFrom_13 : decode cX5_settledFrom 13 = .ok (.goto 9, 3) := by decide +kernel
theorem dX5_settledFrom_16 : decode cX5_settledFrom 16 = .ok (.aload_n 0, 1) := by decide +kernel
theorem dX5_settledFrom_17 : decode cX5_settledFrom 17 = .ok (.getfield 55, 3) := by decide +kernel
theorem dX5_settledFrom_20 : decode cX5_settledFrom 20 = .ok (.iconst 1, 1) := by decide +kernel
theorem dX5_settledFrom_21 : decode cX5_settledFrom 21 = .ok (.iadd, 1) := by decide +kernel
theorem dX5_settledFrom_22 : decode cX5_settledFrom 22 = .ok (.ireturn, 1) := by decide +kernel
theorem dX5_upBits_0 : decode cX5_upBits 0 = .ok (.iconst 0, 1) := by decide +kernel
theorem dX5_upBits_1 : decode cX5_upBits 1 = .ok (.istore_n 1, 1) := by decide +kernel
theorem dX5_upBits_2 : decode cX5_upBits 2 = .ok (.iconst 0, 1) := by decide +kernel
theorem dX5_upBits_3 : decode cX5_upBits 3 = .ok (.istore_n 2, 1) := by decide +kernel
theorem dX5_upBits_4 : decode cX5_upBits 4 = .ok (.iload_n 2, 1) := by decide +kernel
theorem dX5_upBits_5 : decode cX5_upBits 5 = .ok (.aload_n 0, 1) := by decide +kernel
theorem dX5_upBits_6 : decode cX5_upBits 6 = .ok (.getfield 31, 3) := by decide +kernel
theorem dX5_upBits_9 : decode cX5_upBits 9 = .ok (.getfield 82, 3) := by decide +kernel
theorem dX5_upBits_12 : decode cX5_upBits 12 = .ok (.if_icmp .ge 31, 3) := by decide +kernel
theorem dX5_upBits_15 : decode cX5_upBits 15 = .ok (.aload_n 0, 1) := by decide +kernel
theorem dX5_upBits_16 : decode cX5_upBits 16 = .ok (.getfield 31, 3) := by decide +kernel
theorem dX5_upBits_19 : decode cX5_upBits 19 = .ok (.getfield 85, 3) := by decide +kernel
theorem dX5_upBits_22 : decode cX5_upBits 22 = .ok (.iload_n 2, 1) := by decide +kernel
theorem dX5_upBits_23 : decode cX5_upBits 23 = .ok (.aaload, 1) := by decide +kernel
theorem dX5_upBits_24 : decode cX5_upBits 24 = .ok (.getfield 99, 3) := by decide +kernel
theorem dX5_upBits_27 : decode cX5_upBits 27 = .ok (.iconst 4, 1) := by decide +kernel
theorem dX5_upBits_28 : decode cX5_upBits 28 = .ok (.if_icmp .ne 9, 3) := by decide +kernel
theorem dX5_upBits_31 : decode cX5_upBits 31 = .ok (.iload_n 1, 1) := by decide +kernel
theorem dX5_upBits_32 : decode cX5_upBits 32 = .ok (.iconst 1, 1) := by decide +kernel
theorem dX5_upBits_33 : decode cX5_upBits 33 = .ok (.iload_n 2, 1) := by decide +kernel
theorem dX5_upBits_34 : decode cX5_upBits 34 = .ok (.ishl, 1) := by decide +kernel
theorem dX5_upBits_35 : decode cX5_upBits 35 = .ok (.ior, 1) := by decide +kernel
theorem dX5_upBits_36 : decode cX5_upBits 36 = .ok (.istore_n 1, 1) := by decide +kernel
theorem dX5_upBits_37 : decode cX5_upBits 37 = .ok (.iinc 2 1, 3) := by decide +kernel
theorem dX5_upBits_40 : decode cX5_upBits 40 = .ok (.goto (-36), 3) := by decide +kernel
theorem dX5_upBits_43 : decode cX5_upBits 43 = .ok (.iload_n 1, 1) := by decide +kernel
theorem dX5_upBits_44 : decode cX5_upBits 44 = .ok (.ireturn, 1) := by decide +kernel
theorem dX5_cost_0 : decode cX5_cost 0 = .ok (.aload_n 0, 1) := by decide +kernel
theorem dX5_cost_1 : decode cX5_cost 1 = .ok (.getfield 31, 3) := by decide +kernel
theorem dX5_cost_4 : decode cX5_cost 4 = .ok (.getfield 82, 3) := by decide +kernel
theorem dX5_cost_7 : decode cX5_cost 7 = .ok (.aload_n 0, 1) := by decide +kernel
theorem dX5_cost_8 : decode cX5_cost 8 = .ok (.invokevirtual 241, 3) := by decide +kernel
theorem dX5_cost_11 : decode cX5_cost 11 = .ok (.invokestatic 245, 3) := by decide +kernel
theorem dX5_cost_14 : decode cX5_cost 14 = .ok (.isub, 1) := by decide +kernel
theorem dX5_cost_15 : decode cX5_cost 15 = .ok (.istore_n 1, 1) := by decide +kernel
theorem dX5_cost_16 : decode cX5_cost 16 = .ok (.iload_n 1, 1) := by decide +kernel
theorem dX5_cost_17 : decode cX5_cost 17 = .ok (.sipush 301, 3) := by decide +kernel
theorem dX5_cost_20 : decode cX5_cost 20 = .ok (.imul, 1) := by decide +kernel
theorem dX5_cost_21 : decode cX5_cost 21 = .ok (.aload_n 0, 1) := by decide +kernel
theorem dX5_cost_22 : decode cX5_cost 22 = .ok (.invokevirtual 250, 3) := by decide +kernel
theorem dX5_cost_25 : decode cX5_cost 25 = .ok (.iadd, 1) := by decide +kernel
theorem dX5_cost_26 : decode cX5_cost 26 = .ok (.sipush 2401, 3) := by decide +kernel
theorem dX5_cost_29 : decode cX5_cost 29 = .ok (.imul, 1) := by decide +kernel
theorem dX5_cost_30 : decode cX5_cost 30 = .ok (.aload_n 0, 1) := by decide +kernel
theorem dX5_cost_31 : decode cX5_cost 31 = .ok (.getfield 79, 3) := by decide +kernel
theorem dX5_cost_34 : decode cX5_cost 34 = .ok (.iadd, 1) := by decide +kernel
theorem dX5_cost_35 : decode cX5_cost 35 = .ok (.ireturn, 1) := by decide +kernel
theorem dX6_init_0 : decode cX6_init 0 = .ok (.aload_n 0, 1) := by decide +kernel
theorem dX6_init_1 : decode cX6_init 1 = .ok (.invokespecial 3, 3) := by decide +kernel
theorem dX6_init_4 : decode cX6_init 4 = .ok (.aload_n 0, 1) := by decide +kernel
theorem dX6_init_5 : decode cX6_init 5 = .ok (.aload_n 1, 1) := by decide +kernel
theorem dX6_init_6 : decode cX6_init 6 = .ok (.putfield 9, 3) := by decide +kernel
theorem dX6_init_9 : decode cX6_init 9 = .ok (.return_, 1) := by decide +kernel
theorem dX6_restart_0 : decode cX6_restart 0 = .ok (.aload_n 0, 1) := by decide +kernel
theorem dX6_restart_1 : decode cX6_restart 1 = .ok (.iconst 0, 1) := by decide +kernel
theorem dX6_restart_2 : decode cX6_restart 2 = .ok (.putfield 15, 3) := by decide +kernel
theorem dX6_restart_5 : decode cX6_restart 5 = .ok (.return_, 1) := by decide +kernel
theorem dX6_advance_0 : decode cX6_advance 0 = .ok (.aload_n 0, 1) := by decide +kernel
theorem dX6_advance_1 : decode cX6_advance 1 = .ok (.getfield 15, 3) := by decide +kernel
theorem dX6_advance_4 : decode cX6_advance 4 = .ok (.aload_n 0, 1) := by decide +kernel
theorem dX6_advance_5 : decode cX6_advance 5 = .ok (.getfield 9, 3) := by decide +kernel
theorem dX6_advance_8 : decode cX6_advance 8 = .ok (.getfield 19, 3) := by decide +kernel
theorem dX6_advance_11 : decode cX6_advance 11 = .ok (.if_icmp .ge 34, 3) := by decide +kernel
theorem dX6_advance_14 : decode cX6_advance 14 = .ok (.aload_n 0, 1) := by decide +kernel
theorem dX6_advance_15 : decode cX6_advance 15 = .ok (.getfield 9, 3) := by decide +kernel
theorem dX6_advance_18 : decode cX6_advance 18 = .ok (.getfield 24, 3) := by decide +kernel
theorem dX6_advance_21 : decode cX6_advance 21 = .ok (.aload_n 0, 1) := by decide +kernel
theorem dX6_advance_22 : decode cX6_advance 22 = .ok (.getfield 15, 3) := by decide +kernel
theorem dX6_advance_25 : decode cX6_advance 25 = .ok (.iaload, 1) := by decide +kernel
theorem dX6_advance_26 : decode cX6_advance 26 = .ok (.invokestatic 28, 3) := by decide +kernel
theorem dX6_advance_29 : decode cX6_advance 29 = .ok (.ifCond .eq 16, 3) := by decide +kernel
theorem dX6_advance_32 : decode cX6_advance 32 = .ok (.aload_n 0, 1) := by decide +kernel
theorem dX6_advance_33 : decode cX6_advance 33 = .ok (.dup, 1) := by decide +kernel
theorem dX6_advance_34 : decode cX6_advance 34 = .ok (.getfield 15, 3) := by decide +kernel
theorem dX6_advance_37 : decode cX6_advance 37 = .ok (.iconst 1, 1) := by decide +kernel
theorem dX6_advance_38 : decode cX6_advance 38 = .ok (.iadd, 1) := by decide +kernel
theorem dX6_advance_39 : decode cX6_advance 39 = .ok (.putfield 15, 3) := by decide +kernel
theorem dX6_advance_42 : decode cX6_advance 42 = .ok (.goto (-42), 3) := by decide +kernel
theorem dX6_advance_45 : decode cX6_advance 45 = .ok (.aload_n 0, 1) := by decide +kernel
theorem dX6_advance_46 : decode cX6_advance 46 = .ok (.aload_n 0, 1) := by decide +kernel
theorem dX6_advance_47 : decode cX6_advance 47 = .ok (.getfield 15, 3) := by decide +kernel
theorem dX6_advance_50 : decode cX6_advance 50 = .ok (.putfield 32, 3) := by decide +kernel
theorem dX6_advance_53 : decode cX6_advance 53 = .ok (.aload_n 0, 1) := by decide +kernel
theorem dX6_advance_54 : decode cX6_advance 54 = .ok (.iconst 0, 1) := by decide +kernel
theorem dX6_advance_55 : decode cX6_advance 55 = .ok (.putfield 35, 3) := by decide +kernel
theorem dX6_advance_58 : decode cX6_advance 58 = .ok (.aload_n 0, 1) := by decide +kernel
theorem dX6_advance_59 : decode cX6_advance 59 = .ok (.getfield 15, 3) := by decide +kernel
theorem dX6_advance_62 : decode cX6_advance 62 = .ok (.aload_n 0, 1) := by decide +kernel
theorem dX6_advance_63 : decode cX6_advance 63 = .ok (.getfield 9, 3) := by decide +kernel
theorem dX6_advance_66 : decode cX6_advance 66 = .ok (.getfield 19, 3) := by decide +kernel
theorem dX6_advance_69 : decode cX6_advance 69 = .ok (.if_icmp .lt 11, 3) := by decide +kernel
theorem dX6_advance_72 : decode cX6_advance 72 = .ok (.aload_n 0, 1) := by decide +kernel
theorem dX6_advance_73 : decode cX6_advance 73 = .ok (.iconst 0, 1) := by decide +kernel
theorem dX6_advance_74 : decode cX6_advance 74 = .ok (.putfield 38, 3) := by decide +kernel
theorem dX6_advance_77 : decode cX6_advance 77 = .ok (.goto 57, 3) := by decide +kernel
theorem dX6_advance_80 : decode cX6_advance 80 = .ok (.aload_n 0, 1) := by decide +kernel
theorem dX6_advance_81 : decode cX6_advance 81 = .ok (.getfield 9, 3) := by decide +kernel
theorem dX6_advance_84 : decode cX6_advance 84 = .ok (.getfield 24, 3) := by decide +kernel
theorem dX6_advance_87 : decode cX6_advance 87 = .ok (.aload_n 0, 1) := by decide +kernel
theorem dX6_advance_88 : decode cX6_advance 88 = .ok (.getfield 15, 3) := by decide +kernel
theorem dX6_advance_91 : decode cX6_advance 91 = .ok (.iaload, 1) := by decide +kernel
theorem dX6_advance_92 : decode cX6_advance 92 = .ok (.invokestatic 41, 3) := by decide +kernel
theorem dX6_advance_95 : decode cX6_advance 95 = .ok (.ifCond .eq 10, 3) := by decide +kernel
theorem dX6_advance_98 : decode cX6_advance 98 = .ok (.aload_n 0, 1) := by decide +kernel
theorem dX6_advance_99 : decode cX6_advance 99 = .ok (.invokevirtual 44, 3) := by decide +kernel
theorem dX6_advance_102 : decode cX6_advance 102 = .ok (.goto 32, 3) := by decide +kernel
theorem dX6_advance_105 : decode cX6_advance 105 = .ok (.aload_n 0, 1) := by decide +kernel
theorem dX6_advance_106 : decode cX6_advance 106 = .ok (.getfield 9, 3) := by decide +kernel
theorem dX6_advance_109 : decode cX6_advance 109 = .ok (.getfield 24, 3) := by decide +kernel
theorem dX6_advance_112 : decode cX6_advance 112 = .ok (.aload_n 0, 1) := by decide +kernel
theorem dX6_advance_113 : decode cX6_advance 113 = .ok (.getfield 15, 3) := by decide +kernel
theorem dX6_advance_116 : decode cX6_advance 116 = .ok (.iaload, 1) := by decide +kernel
theorem dX6_advance_117 : decode cX6_advance 117 = .ok (.invokestatic 47, 3) := by decide +kernel
theorem dX6_advance_120 : decode cX6_advance 120 = .ok (.ifCond .eq 10, 3) := by decide +kernel
theorem dX6_advance_123 : decode cX6_advance 123 = .ok (.aload_n 0, 1) := by decide +kernel
theorem dX6_advance_124 : decode cX6_advance 124 = .ok (.invokevirtual 50, 3) := by decide +kernel
theorem dX6_advance_127 : decode cX6_advance 127 = .ok (.goto 7, 3) := by decide +kernel
theorem dX6_advance_130 : decode cX6_advance 130 = .ok (.aload_n 0, 1) := by decide +kernel
theorem dX6_advance_131 : decode cX6_advance 131 = .ok (.invokevirtual 53, 3) := by decide +kernel
theorem dX6_advance_134 : decode cX6_advance 134 = .ok (.return_, 1) := by decide +kernel
theorem dX6_scanWord_0 : decode cX6_scanWord 0 = .ok (.lconst 0, 1) := by decide +kernel
theorem dX6_scanWord_1 : decode cX6_scanWord 1 = .ok (.lstore_n 1, 1) := by decide +kernel
theorem dX6_scanWord_2 : decode cX6_scanWord 2 = .ok (.aload_n 0, 1) := by decide +kernel
theorem dX6_scanWord_3 : decode cX6_scanWord 3 = .ok (.getfield 15, 3) := by decide +kernel
theorem dX6_scanWord_6 : decode cX6_scanWord 6 = .ok (.aload_n 0, 1) := by decide +kernel
theorem dX6_scanWord_7 : decode cX6_scanWord 7 = .ok (.getfield 9, 3) := by decide +kernel
theorem dX6_scanWord_10 : decode cX6_scanWord 10 = .ok (.getfield 19, 3) := by decide +kernel
theorem dX6_scanWord_13 : decode cX6_scanWord 13 = .ok (.if_icmp .ge 53, 3) := by decide +kernel
theorem dX6_scanWord_16 : decode cX6_scanWord 16 = .ok (.aload_n 0, 1) := by decide +kernel
theorem dX6_scanWord_17 : decode cX6_scanWord 17 = .ok (.getfield 9, 3) := by decide +kernel
theorem dX6_scanWord_20 : decode cX6_scanWord 20 = .ok (.getfield 24, 3) := by decide +kernel
theorem dX6_scanWord_23 : decode cX6_scanWord 23 = .ok (.aload_n 0, 1) := by decide +kernel
theorem dX6_scanWord_24 : decode cX6_scanWord 24 = .ok (.getfield 15, 3) := by decide +kernel
theorem dX6_scanWord_27 : decode cX6_scanWord 27 = .ok (.iaload, 1) := by decide +kernel
theorem dX6_scanWord_28 : decode cX6_scanWord 28 = .ok (.invokestatic 41, 3) := by decide +kernel
theorem dX6_scanWord_31 : decode cX6_scanWord 31 = .ok (.ifCond .eq 35, 3) := by decide +kernel
theorem dX6_scanWord_34 : decode cX6_scanWord 34 = .ok (.lload_n 1, 1) := by decide +kernel
theorem dX6_scanWord_35 : decode cX6_scanWord 35 = .ok (.bipush 8, 2) := by decide +kernel
theorem dX6_scanWord_37 : decode cX6_scanWord 37 = .ok (.lshl, 1) := by decide +kernel
theorem dX6_scanWord_38 : decode cX6_scanWord 38 = .ok (.aload_n 0, 1) := by decide +kernel
theorem dX6_scanWord_39 : decode cX6_scanWord 39 = .ok (.getfield 9, 3) := by decide +kernel
theorem dX6_scanWord_42 : decode cX6_scanWord 42 = .ok (.getfield 24, 3) := by decide +kernel
theorem dX6_scanWord_45 : decode cX6_scanWord 45 = .ok (.aload_n 0, 1) := by decide +kernel
theorem dX6_scanWord_46 : decode cX6_scanWord 46 = .ok (.getfield 15, 3) := by decide +kernel
theorem dX6_scanWord_49 : decode cX6_scanWord 49 = .ok (.iaload, 1) := by decide +kernel
theorem dX6_scanWord_50 : decode cX6_scanWord 50 = .ok (.i2l, 1) := by decide +kernel
theorem dX6_scanWord_51 : decode cX6_scanWord 51 = .ok (.lor, 1) := by decide +kernel
theorem dX6_scanWord_52 : decode cX6_scanWord 52 = .ok (.lstore_n 1, 1) := by decide +kernel
theorem dX6_scanWord_53 : decode cX6_scanWord 53 = .ok (.aload_n 0, 1) := by decide +kernel
theorem dX6_scanWord_54 : decode cX6_scanWord 54 = .ok (.dup, 1) := by decide +kernel
theorem dX6_scanWord_55 : decode cX6_scanWord 55 = .ok (.getfield 15, 3) := by decide +kernel
theorem dX6_scanWord_58 : decode cX6_scanWord 58 = .ok (.iconst 1, 1) := by decide +kernel
theorem dX6_scanWord_59 : decode cX6_scanWord 59 = .ok (.iadd, 1) := by decide +kernel
theorem dX6_scanWord_60 : decode cX6_scanWord 60 = .ok (.putfield 15, 3) := by decide +kernel
theorem dX6_scanWord_63 : decode cX6_scanWord 63 = .ok (.goto (-61), 3) := by decide +kernel
theorem dX6_scanWord_66 : decode cX6_scanWord 66 = .ok (.aload_n 0, 1) := by decide +kernel
theorem dX6_scanWord_67 : decode cX6_scanWord 67 = .ok (.iconst 1, 1) := by decide +kernel
theorem dX6_scanWord_68 : decode cX6_scanWord 68 = .ok (.putfield 38, 3) := by decide +kernel
theorem dX6_scanWord_71 : decode cX6_scanWord 71 = .ok (.iconst 0, 1) := by decide +kernel
theorem dX6_scanWord_72 : decode cX6_scanWord 72 = .ok (.istore_n 3, 1) := by decide +kernel
theorem dX6_scanWord_73 : decode cX6_scanWord 73 = .ok (.iload_n 3, 1) := by decide +kernel
theorem dX6_scanWord_74 : decode cX6_scanWord 74 = .ok (.getstatic 56, 3) := by decide +kernel
theorem dX6_scanWord_77 : decode cX6_scanWord 77 = .ok (.arraylength, 1) := by decide +kernel
theorem dX6_scanWord_78 : decode cX6_scanWord 78 = .ok (.if_icmp .ge 37, 3) := by decide +kernel
theorem dX6_scanWord_81 : decode cX6_scanWord 81 = .ok (.getstatic 56, 3) := by decide +kernel
theorem dX6_scanWord_84 : decode cX6_scanWord 84 = .ok (.iload_n 3, 1) := by decide +kernel
theorem dX6_scanWord_85 : decode cX6_scanWord 85 = .ok (.laload, 1) := by decide +kernel
theorem dX6_scanWord_86 : decode cX6_scanWord 86 = .ok (.lload_n 1, 1) := by decide +kernel
theorem dX6_scanWord_87 : decode cX6_scanWord 87 = .ok (.lcmp, 1) := by decide +kernel
theorem dX6_scanWord_88 : decode cX6_scanWord 88 = .ok (.ifCond .ne 21, 3) := by decide +kernel
theorem dX6_scanWord_91 : decode cX6_scanWord 91 = .ok (.aload_n 0, 1) := by decide +kernel
theorem dX6_scanWord_92 : decode cX6_scanWord 92 = .ok (.getstatic 60, 3) := by decide +kernel
theorem dX6_scanWord_95 : decode cX6_scanWord 95 = .ok (.iload_n 3, 1) := by decide +kernel
theorem dX6_scanWord_96 : decode cX6_scanWord 96 = .ok (.iaload, 1) := by decide +kernel
theorem dX6_scanWord_97 : decode cX6_scanWord 97 = .ok (.putfield 38, 3) := by decide +kernel
theorem dX6_scanWord_100 : decode cX6_scanWord 100 = .ok (.aload_n 0, 1) := by decide +kernel
theorem dX6_scanWord_101 : decode cX6_scanWord 101 = .ok (.getstatic 63, 3) := by decide +kernel
theorem dX6_scanWord_104 : decode cX6_scanWord 104 = .ok (.iload_n 3, 1) := by decide +kernel
theorem dX6_scanWord_105 : decode cX6_scanWord 105 = .ok (.iaload, 1) := by decide +kernel
theorem dX6_scanWord_106 : decode cX6_scanWord 106 = .ok (.putfield 35, 3) := by decide +kernel
theorem dX6_scanWord_109 : decode cX6_scanWord 109 = .ok (.iinc 3 1, 3) := by decide +kernel
theorem dX6_scanWord_112 : decode cX6_scanWord 112 = .ok (.goto (-39), 3) := by decide +kernel
theorem dX6_scanWord_115 : decode cX6_scanWord 115 = .ok (.return_, 1) := by decide +kernel
theorem dX6_scanInt_0 : decode cX6_scanInt 0 = .ok (.aload_n 0, 1) := by decide +kernel
theorem dX6_scanInt_1 : decode cX6_scanInt 1 = .ok (.getfield 15, 3) := by decide +kernel
theorem dX6_scanInt_4 : decode cX6_scanInt 4 = .ok (.aload_n 0, 1) := by decide +kernel
theorem dX6_scanInt_5 : decode cX6_scanInt 5 = .ok (.getfield 9, 3) := by decide +kernel
theorem dX6_scanInt_8 : decode cX6_scanInt 8 = .ok (.getfield 19, 3) := by decide +kernel
theorem dX6_scanInt_11 : decode cX6_scanInt 11 = .ok (.if_icmp .ge 61, 3) := by decide +kernel
theorem dX6_scanInt_14 : decode cX6_scanInt 14 = .ok (.aload_n 0, 1) := by decide +kernel
theorem dX6_scanInt_15 : decode cX6_scanInt 15 = .ok (.getfield 9, 3) := by decide +kernel
theorem dX6_scanInt_18 : decode cX6_scanInt 18 = .ok (.getfield 24, 3) := by decide +kernel
theorem dX6_scanInt_21 : decode cX6_scanInt 21 = .ok (.aload_n 0, 1) := by decide +kernel
theorem dX6_scanInt_22 : decode cX6_scanInt 22 = .ok (.getfield 15, 3) := by decide +kernel
theorem dX6_scanInt_25 : decode cX6_scanInt 25 = .ok (.iaload, 1) := by decide +kernel
theorem dX6_scanInt_26 : decode cX6_scanInt 26 = .ok (.invokestatic 47, 3) := by decide +kernel
theorem dX6_scanInt_29 : decode cX6_scanInt 29 = .ok (.ifCond .eq 43, 3) := by decide +kernel
theorem dX6_scanInt_32 : decode cX6_scanInt 32 = .ok (.aload_n 0, 1) := by decide +kernel
theorem dX6_scanInt_33 : decode cX6_scanInt 33 = .ok (.aload_n 0, 1) := by decide +kernel
theorem dX6_scanInt_34 : decode cX6_scanInt 34 = .ok (.getfield 35, 3) := by decide +kernel
theorem dX6_scanInt_37 : decode cX6_scanInt 37 = .ok (.bipush 10, 2) := by decide +kernel
theorem dX6_scanInt_39 : decode cX6_scanInt 39 = .ok (.imul, 1) := by decide +kernel
theorem dX6_scanInt_40 : decode cX6_scanInt 40 = .ok (.aload_n 0, 1) := by decide +kernel
theorem dX6_scanInt_41 : decode cX6_scanInt 41 = .ok (.getfield 9, 3) := by decide +kernel
theorem dX6_scanInt_44 : decode cX6_scanInt 44 = .ok (.getfield 24, 3) := by decide +kernel
theorem dX6_scanInt_47 : decode cX6_scanInt 47 = .ok (.aload_n 0, 1) := by decide +kernel
theorem dX6_scanInt_48 : decode cX6_scanInt 48 = .ok (.getfield 15, 3) := by decide +kernel
theorem dX6_scanInt_51 : decode cX6_scanInt 51 = .ok (.iaload, 1) := by decide +kernel
theorem dX6_scanInt_52 : decode cX6_scanInt 52 = .ok (.iadd, 1) := by decide +kernel
theorem dX6_scanInt_53 : decode cX6_scanInt 53 = .ok (.bipush 48, 2) := by decide +kernel
theorem dX6_scanInt_55 : decode cX6_scanInt 55 = .ok (.isub, 1) := by decide +kernel
theorem dX6_scanInt_56 : decode cX6_scanInt 56 = .ok (.putfield 35, 3) := by decide +kernel
theorem dX6_scanInt_59 : decode cX6_scanInt 59 = .ok (.aload_n 0, 1) := by decide +kernel
theorem dX6_scanInt_60 : decode cX6_scanInt 60 = .ok (.dup, 1) := by decide +kernel
theorem dX6_scanInt_61 : decode cX6_scanInt 61 = .ok (.getfield 15, 3) := by decide +kernel
theorem dX6_scanInt_64 : decode cX6_scanInt 64 = .ok (.iconst 1, 1) := by decide +kernel
theorem dX6_scanInt_65 : decode cX6_scanInt 65 = .ok (.iadd, 1) := by decide +kernel
theorem dX6_scanInt_66 : decode cX6_scanInt 66 = .ok (.putfield 15, 3) := by decide +kernel
theorem dX6_scanInt_69 : decode cX6_scanInt 69 = .ok (.goto (-69), 3) := by decide +kernel
theorem dX6_scanInt_72 : decode cX6_scanInt 72 = .ok (.aload_n 0, 1) := by decide +kernel
theorem dX6_scanInt_73 : decode cX6_scanInt 73 = .ok (.aload_n 0, 1) := by decide +kernel
theorem dX6_scanInt_74 : decode cX6_scanInt 74 = .ok (.getfield 15, 3) := by decide +kernel
theorem dX6_scanInt_77 : decode cX6_scanInt 77 = .ok (.aload_n 0, 1) := by decide +kernel
theorem dX6_scanInt_78 : decode cX6_scanInt 78 = .ok (.getfield 32, 3) := by decide +kernel
theorem dX6_scanInt_81 : decode cX6_scanInt 81 = .ok (.isub, 1) := by decide +kernel
theorem dX6_scanInt_82 : decode cX6_scanInt 82 = .ok (.iconst 4, 1) := by decide +kernel
theorem dX6_scanInt_83 : decode cX6_scanInt 83 = .ok (.if_icmp .gt 7, 3) := by decide +kernel
theorem dX6_scanInt_86 : decode cX6_scanInt 86 = .ok (.iconst 2, 1) := by decide +kernel
theorem dX6_scanInt_87 : decode cX6_scanInt 87 = .ok (.goto 4, 3) := by decide +kernel
theorem dX6_scanInt_90 : decode cX6_scanInt 90 = .ok (.iconst 1, 1) := by decide +kernel
theorem dX6_scanInt_91 : decode cX6_scanInt 91 = .ok (.putfield 38, 3) := by decide +kernel
theorem dX6_scanInt_94 : decode cX6_scanInt 94 = .ok (.return_, 1) := by decide +kernel
theorem dX6_scanSign_0 : decode cX6_scanSign 0 = .ok (.aload_n 0, 1) := by decide +kernel
theorem dX6_scanSign_1 : decode cX6_scanSign 1 = .ok (.getfield 9, 3) := by decide +kernel
theorem dX6_scanSign_4 : decode cX6_scanSign 4 = .ok (.getfield 24, 3) := by decide +kernel
theorem dX6_scanSign_7 : decode cX6_scanSign 7 = .ok (.aload_n 0, 1) := by decide +kernel
theorem dX6_scanSign_8 : decode cX6_scanSign 8 = .ok (.getfield 15, 3) := by decide +kernel
theorem dX6_scanSign_11 : decode cX6_scanSign 11 = .ok (.iaload, 1) := by decide +kernel
theorem dX6_scanSign_12 : decode cX6_scanSign 12 = .ok (.istore_n 1, 1) := by decide +kernel
theorem dX6_scanSign_13 : decode cX6_scanSign 13 = .ok (.aload_n 0, 1) := by decide +kernel
theorem dX6_scanSign_14 : decode cX6_scanSign 14 = .ok (.dup, 1) := by decide +kernel
theorem dX6_scanSign_15 : decode cX6_scanSign 15 = .ok (.getfield 15, 3) := by decide +kernel
theorem dX6_scanSign_18 : decode cX6_scanSign 18 = .ok (.iconst 1, 1) := by decide +kernel
theorem dX6_scanSign_19 : decode cX6_scanSign 19 = .ok (.iadd, 1) := by decide +kernel
theorem dX6_scanSign_20 : decode cX6_scanSign 20 = .ok (.putfield 15, 3) := by decide +kernel
theorem dX6_scanSign_23 : decode cX6_scanSign 23 = .ok (.iload_n 1, 1) := by decide +kernel
theorem dX6_scanSign_24 : decode cX6_scanSign 24 = .ok (.tableswitch 156 40 59 #[105, 114, 145, 123, 156, 134, 156, 156, 156, 156, 156, 156, 156, 156, 156, 156, 156, 156, 156, 96], 96) := by decide +kernel
theorem dX6_scanSign_120 : decode cX6_scanSign 120 = .ok (.aload_n 0, 1) := by decide +kernel
theorem dX6_scanSign_121 : decode cX6_scanSign 121 = .ok (.bipush 12, 2) := by decide +kernel
theorem dX6_scanSign_123 : decode cX6_scanSign 123 = .ok (.putfield 38, 3) := by decide +kernel
theorem dX6_scanSign_126 : decode cX6_scanSign 126 = .ok (.goto 59, 3) := by decide +kernel
theorem dX6_scanSign_129 : decode cX6_scanSign 129 = .ok (.aload_n 0, 1) := by decide +kernel
theorem dX6_scanSign_130 : decode cX6_scanSign 130 = .ok (.bipush 10, 2) := by decide +kernel
theorem dX6_scanSign_132 : decode cX6_scanSign 132 = .ok (.putfield 38, 3) := by decide +kernel
theorem dX6_scanSign_135 : decode cX6_scanSign 135 = .ok (.goto 50, 3) := by decide +kernel
theorem dX6_scanSign_138 : decode cX6_scanSign 138 = .ok (.aload_n 0, 1) := by decide +kernel
theorem dX6_scanSign_139 : decode cX6_scanSign 139 = .ok (.bipush 11, 2) := by decide +kernel
theorem dX6_scanSign_141 : decode cX6_scanSign 141 = .ok (.putfield 38, 3) := by decide +kernel
theorem dX6_scanSign_144 : decode cX6_scanSign 144 = .ok (.goto 41, 3) := by decide +kernel
theorem dX6_scanSign_147 : decode cX6_scanSign 147 = .ok (.aload_n 0, 1) := by decide +kernel
theorem dX6_scanSign_148 : decode cX6_scanSign 148 = .ok (.bipush 9, 2) := by decide +kernel
theorem dX6_scanSign_150 : decode cX6_scanSign 150 = .ok (.bipush 7, 2) := by decide +kernel
theorem dX6_scanSign_152 : decode cX6_scanSign 152 = .ok (.invokevirtual 66, 3) := by decide +kernel
theorem dX6_scanSign_155 : decode cX6_scanSign 155 = .ok (.goto 30, 3) := by decide +kernel
theorem dX6_scanSign_158 : decode cX6_scanSign 158 = .ok (.aload_n 0, 1) := by decide +kernel
theorem dX6_scanSign_159 : decode cX6_scanSign 159 = .ok (.bipush 9, 2) := by decide +kernel
theorem dX6_scanSign_161 : decode cX6_scanSign 161 = .ok (.bipush 8, 2) := by decide +kernel
theorem dX6_scanSign_163 : decode cX6_scanSign 163 = .ok (.invokevirtual 66, 3) := by decide +kernel
theorem dX6_scanSign_166 : decode cX6_scanSign 166 = .ok (.goto 19, 3) := by decide +kernel
theorem dX6_scanSign_169 : decode cX6_scanSign 169 = .ok (.aload_n 0, 1) := by decide +kernel
theorem dX6_scanSign_170 : decode cX6_scanSign 170 = .ok (.bipush 9, 2) := by decide +kernel
theorem dX6_scanSign_172 : decode cX6_scanSign 172 = .ok (.bipush 9, 2) := by decide +kernel
theorem dX6_scanSign_174 : decode cX6_scanSign 174 = .ok (.invokevirtual 66, 3) := by decide +kernel
theorem dX6_scanSign_177 : decode cX6_scanSign 177 = .ok (.goto 8, 3) := by decide +kernel
theorem dX6_scanSign_180 : decode cX6_scanSign 180 = .ok (.aload_n 0, 1) := by decide +kernel
theorem dX6_scanSign_181 : decode cX6_scanSign 181 = .ok (.iload_n 1, 1) := by decide +kernel
theorem dX6_scanSign_182 : decode cX6_scanSign 182 = .ok (.invokevirtual 70, 3) := by decide +kernel
theorem dX6_scanSign_185 : decode cX6_scanSign 185 = .ok (.return_, 1) := by decide +kernel
theorem dX6_scanRelation_0 : decode cX6_scanRelation 0 = .ok (.aload_n 0, 1) := by decide +kernel
theorem dX6_scanRelation_1 : decode cX6_scanRelation 1 = .ok (.getfield 15, 3) := by decide +kernel
theorem dX6_scanRelation_4 : decode cX6_scanRelation 4 = .ok (.aload_n 0, 1) := by decide +kernel
theorem dX6_scanRelation_5 : decode cX6_scanRelation 5 = .ok (.getfield 9, 3) := by decide +kernel
theorem dX6_scanRelation_8 : decode cX6_scanRelation 8 = .ok (.getfield 19, 3) := by decide +kernel
theorem dX6_scanRelation_11 : decode cX6_scanRelation 11 = .ok (.if_icmp .ge 24, 3) := by decide +kernel
theorem dX6_scanRelation_14 : decode cX6_scanRelation 14 = .ok (.aload_n 0, 1) := by decide +kernel
theorem dX6_scanRelation_15 : decode cX6_scanRelation 15 = .ok (.getfield 9, 3) := by decide +kernel
theorem dX6_scanRelation_18 : decode cX6_scanRelation 18 = .ok (.getfield 24, 3) := by decide +kernel
theorem dX6_scanRelation_21 : decode cX6_scanRelation 21 = .ok (.aload_n 0, 1) := by decide +kernel
theorem dX6_scanRelation_22 : decode cX6_scanRelation 22 = .ok (.getfield 15, 3) := by decide +kernel
theorem dX6_scanRelation_25 : decode cX6_scanRelation 25 = .ok (.iaload, 1) := by decide +kernel
theorem dX6_scanRelation_26 : decode cX6_scanRelation 26 = .ok (.bipush 61, 2) := by decide +kernel
theorem dX6_scanRelation_28 : decode cX6_scanRelation 28 = .ok (.if_icmp .ne 7, 3) := by decide +kernel
theorem dX6_scanRelation_31 : decode cX6_scanRelation 31 = .ok (.iconst 1, 1) := by decide +kernel
theorem dX6_scanRelation_32 : decode cX6_scanRelation 32 = .ok (.goto 4, 3) := by decide +kernel
theorem dX6_scanRelation_35 : decode cX6_scanRelation 35 = .ok (.iconst 0, 1) := by decide +kernel
theorem dX6_scanRelation_36 : decode cX6_scanRelation 36 = .ok (.istore_n 2, 1) := by decide +kernel
theorem dX6_scanRelation_37 : decode cX6_scanRelation 37 = .ok (.iload_n 1, 1) := by decide +kernel
theorem dX6_scanRelation_38 : decode cX6_scanRelation 38 = .ok (.bipush 60, 2) := by decide +kernel
theorem dX6_scanRelation_40 : decode cX6_scanRelation 40 = .ok (.if_icmp .ne 22, 3) := by decide +kernel
theorem dX6_scanRelation_43 : decode cX6_scanRelation 43 = .ok (.aload_n 0, 1) := by decide +kernel
theorem dX6_scanRelation_44 : decode cX6_scanRelation 44 = .ok (.bipush 8, 2) := by decide +kernel
theorem dX6_scanRelation_46 : decode cX6_scanRelation 46 = .ok (.iload_n 2, 1) := by decide +kernel
theorem dX6_scanRelation_47 : decode cX6_scanRelation 47 = .ok (.ifCond .eq 8, 3) := by decide +kernel
theorem dX6_scanRelation_50 : decode cX6_scanRelation 50 = .ok (.bipush 6, 2) := by decide +kernel
theorem dX6_scanRelation_52 : decode cX6_scanRelation 52 = .ok (.goto 4, 3) := by decide +kernel
theorem dX6_scanRelation_55 : decode cX6_scanRelation 55 = .ok (.iconst 5, 1) := by decide +kernel
theorem dX6_scanRelation_56 : decode cX6_scanRelation 56 = .ok (.invokevirtual 66, 3) := by decide +kernel
theorem dX6_scanRelation_59 : decode cX6_scanRelation 59 = .ok (.goto 45, 3) := by decide +kernel
theorem dX6_scanRelation_62 : decode cX6_scanRelation 62 = .ok (.iload_n 2, 1) := by decide +kernel
theorem dX6_scanRelation_63 : decode cX6_scanRelation 63 = .ok (.ifCond .eq 35, 3) := by decide +kernel
theorem dX6_scanRelation_66 : decode cX6_scanRelation 66 = .ok (.iload_n 1, 1) := by decide +kernel
theorem dX6_scanRelation_67 : decode cX6_scanRelation 67 = .ok (.bipush 61, 2) := by decide +kernel
theorem dX6_scanRelation_69 : decode cX6_scanRelation 69 = .ok (.if_icmp .eq 9, 3) := by decide +kernel
theorem dX6_scanRelation_72 : decode cX6_scanRelation 72 = .ok (.iload_n 1, 1) := by decide +kernel
theorem dX6_scanRelation_73 : decode cX6_scanRelation 73 = .ok (.bipush 33, 2) := by decide +kernel
theorem dX6_scanRelation_75 : decode cX6_scanRelation 75 = .ok (.if_icmp .ne 23, 3) := by decide +kernel
theorem dX6_scanRelation_78 : decode cX6_scanRelation 78 = .ok (.aload_n 0, 1) := by decide +kernel
theorem dX6_scanRelation_79 : decode cX6_scanRelation 79 = .ok (.bipush 8, 2) := by decide +kernel
theorem dX6_scanRelation_81 : decode cX6_scanRelation 81 = .ok (.iload_n 1, 1) := by decide +kernel
theorem dX6_scanRelation_82 : decode cX6_scanRelation 82 = .ok (.bipush 61, 2) := by decide +kernel
theorem dX6_scanRelation_84 : decode cX6_scanRelation 84 = .ok (.if_icmp .ne 7, 3) := by decide +kernel
theorem dX6_scanRelation_87 : decode cX6_scanRelation 87 = .ok (.iconst 3, 1) := by decide +kernel
theorem dX6_scanRelation_88 : decode cX6_scanRelation 88 = .ok (.goto 4, 3) := by decide +kernel
theorem dX6_scanRelation_91 : decode cX6_scanRelation 91 = .ok (.iconst 4, 1) := by decide +kernel
theorem dX6_scanRelation_92 : decode cX6_scanRelation 92 = .ok (.invokevirtual 66, 3) := by decide +kernel
theorem dX6_scanRelation_95 : decode cX6_scanRelation 95 = .ok (.goto 9, 3) := by decide +kernel
theorem dX6_scanRelation_98 : decode cX6_scanRelation 98 = .ok (.aload_n 0, 1) := by decide +kernel
theorem dX6_scanRelation_99 : decode cX6_scanRelation 99 = .ok (.iconst 1, 1) := by decide +kernel
theorem dX6_scanRelation_100 : decode cX6_scanRelation 100 = .ok (.putfield 38, 3) := by decide +kernel
theorem dX6_scanRelation_103 : decode cX6_scanRelation 103 = .ok (.return_, 1) := by decide +kernel
theorem dX6_scanRelation_104 : decode cX6_scanRelation 104 = .ok (.iload_n 2, 1) := by decide +kernel
theorem dX6_scanRelation_105 : decode cX6_scanRelation 105 = .ok (.ifCond .eq 13, 3) := by decide +kernel
theorem dX6_scanRelation_108 : decode cX6_scanRelation 108 = .ok (.aload_n 0, 1) := by decide +kernel
theorem dX6_scanRelation_109 : decode cX6_scanRelation 109 = .ok (.dup, 1) := by decide +kernel
theorem dX6_scanRelation_110 : decode cX6_scanRelation 110 = .ok (.getfield 15, 3) := by decide +kernel
theorem dX6_scanRelation_113 : decode cX6_scanRelation 113 = .ok (.iconst 1, 1) := by decide +kernel
theorem dX6_scanRelation_114 : decode cX6_scanRelation 114 = .ok (.iadd, 1) := by decide +kernel
theorem dX6_scanRelation_115 : decode cX6_scanRelation 115 = .ok (.putfield 15, 3) := by decide +kernel
theorem dX6_scanRelation_118 : decode cX6_scanRelation 118 = .ok (.return_, 1) := by decide +kernel
theorem dX6_set_0 : decode cX6_set 0 = .ok (.aload_n 0, 1) := by decide +kernel
theorem dX6_set_1 : decode cX6_set 1 = .ok (.iload_n 1, 1) := by decide +kernel
theorem dX6_set_2 : decode cX6_set 2 = .ok (.putfield 38, 3) := by decide +kernel
theorem dX6_set_5 : decode cX6_set 5 = .ok (.aload_n 0, 1) := by decide +kernel
theorem dX6_set_6 : decode cX6_set 6 = .ok (.iload_n 2, 1) := by decide +kernel
theorem dX6_set_7 : decode cX6_set 7 = .ok (.putfield 35, 3) := by decide +kernel
theorem dX6_set_10 : decode cX6_set 10 = .ok (.return_, 1) := by decide +kernel
theorem dX6_isBlank_0 : decode cX6_isBlank 0 = .ok (.iload_n 0, 1) := by decide +kernel
theorem dX6_isBlank_1 : decode cX6_isBlank 1 = .ok (.bipush 32, 2) := by decide +kernel
theorem dX6_isBlank_3 : decode cX6_isBlank 3 = .ok (.if_icmp .eq 21, 3) := by decide +kernel
theorem dX6_isBlank_6 : decode cX6_isBlank 6 = .ok (.iload_n 0, 1) := by decide +kernel
theorem dX6_isBlank_7 : decode cX6_isBlank 7 = .ok (.bipush 9, 2) := by decide +kernel
theorem dX6_isBlank_9 : decode cX6_isBlank 9 = .ok (.if_icmp .eq 15, 3) := by decide +kernel
theorem dX6_isBlank_12 : decode cX6_isBlank 12 = .ok (.iload_n 0, 1) := by decide +kernel
theorem dX6_isBlank_13 : decode cX6_isBlank 13 = .ok (.bipush 10, 2) := by decide +kernel
theorem dX6_isBlank_15 : decode cX6_isBlank 15 = .ok (.if_icmp .eq 9, 3) := by decide +kernel
theorem dX6_isBlank_18 : decode cX6_isBlank 18 = .ok (.iload_n 0, 1) := by decide +kernel
theorem dX6_isBlank_19 : decode cX6_isBlank 19 = .ok (.bipush 13, 2) := by decide +kernel
theorem dX6_isBlank_21 : decode cX6_isBlank 21 = .ok (.if_icmp .ne 7, 3) := by decide +kernel
theorem dX6_isBlank_24 : decode cX6_isBlank 24 = .ok (.iconst 1, 1) := by decide +kernel
theorem dX6_isBlank_25 : decode cX6_isBlank 25 = .ok (.goto 4, 3) := by decide +kernel
theorem dX6_isBlank_28 : decode cX6_isBlank 28 = .ok (.iconst 0, 1) := by decide +kernel
theorem dX6_isBlank_29 : decode cX6_isBlank 29 = .ok (.ireturn, 1) := by decide +kernel
theorem dX6_isLetter_0 : decode cX6_isLetter 0 = .ok (.iload_n 0, 1) := by decide +kernel
theorem dX6_isLetter_1 : decode cX6_isLetter 1 = .ok (.bipush 97, 2) := by decide +kernel
theorem dX6_isLetter_3 : decode cX6_isLetter 3 = .ok (.if_icmp .lt 13, 3) := by decide +kernel
theorem dX6_isLetter_6 : decode cX6_isLetter 6 = .ok (.iload_n 0, 1) := by decide +kernel
theorem dX6_isLetter_7 : decode cX6_isLetter 7 = .ok (.bipush 122, 2) := by decide +kernel
theorem dX6_isLetter_9 : decode cX6_isLetter 9 = .ok (.if_icmp .gt 7, 3) := by decide +kernel
theorem dX6_isLetter_12 : decode cX6_isLetter 12 = .ok (.iconst 1, 1) := by decide +kernel
theorem dX6_isLetter_13 : decode cX6_isLetter 13 = .ok (.goto 4, 3) := by decide +kernel
theorem dX6_isLetter_16 : decode cX6_isLetter 16 = .ok (.iconst 0, 1) := by decide +kernel
theorem dX6_isLetter_17 : decode cX6_isLetter 17 = .ok (.ireturn, 1) := by decide +kernel
theorem dX6_isDigit_0 : decode cX6_isDigit 0 = .ok (.iload_n 0, 1) := by decide +kernel
theorem dX6_isDigit_1 : decode cX6_isDigit 1 = .ok (.bipush 48, 2) := by decide +kernel
theorem dX6_isDigit_3 : decode cX6_isDigit 3 = .ok (.if_icmp .lt 13, 3) := by decide +kernel
theorem dX6_isDigit_6 : decode cX6_isDigit 6 = .ok (.iload_n 0, 1) := by decide +kernel
theorem dX6_isDigit_7 : decode cX6_isDigit 7 = .ok (.bipush 57, 2) := by decide +kernel
theorem dX6_isDigit_9 : decode cX6_isDigit 9 = .ok (.if_icmp .gt 7, 3) := by decide +kernel
theorem dX6_isDigit_12 : decode cX6_isDigit 12 = .ok (.iconst 1, 1) := by decide +kernel
theorem dX6_isDigit_13 : decode cX6_isDigit 13 = .ok (.goto 4, 3) := by decide +kernel
theorem dX6_isDigit_16 : decode cX6_isDigit 16 = .ok (.iconst 0, 1) := by decide +kernel
theorem dX6_isDigit_17 : decode cX6_isDigit 17 = .ok (.ireturn, 1) := by decide +kernel
theorem dX7_init_0 : decode cX7_init 0 = .ok (.aload_n 0, 1) := by decide +kernel
theorem dX7_init_1 : decode cX7_init 1 = .ok (.invokespecial 3, 3) := by decide +kernel
theorem dX7_init_4 : decode cX7_init 4 = .ok (.aload_n 0, 1) := by decide +kernel
theorem dX7_init_5 : decode cX7_init 5 = .ok (.sipush 2000, 3) := by decide +kernel
theorem dX7_init_8 : decode cX7_init 8 = .ok (.newarray .int, 2) := by decide +kernel
theorem dX7_init_10 : decode cX7_init 10 = .ok (.putfield 9, 3) := by decide +kernel
theorem dX7_init_13 : decode cX7_init 13 = .ok (.return_, 1) := by decide +kernel
theorem dX7_append_0 : decode cX7_append 0 = .ok (.bipush 24, 2) := by decide +kernel
theorem dX7_append_2 : decode cX7_append 2 = .ok (.istore_n 2, 1) := by decide +kernel
theorem dX7_append_3 : decode cX7_append 3 = .ok (.iload_n 2, 1) := by decide +kernel
theorem dX7_append_4 : decode cX7_append 4 = .ok (.ifCond .lt 45, 3) := by decide +kernel
theorem dX7_append_7 : decode cX7_append 7 = .ok (.aload_n 0, 1) := by decide +kernel
theorem dX7_append_8 : decode cX7_append 8 = .ok (.getfield 15, 3) := by decide +kernel
theorem dX7_append_11 : decode cX7_append 11 = .ok (.sipush 2000, 3) := by decide +kernel
theorem dX7_append_14 : decode cX7_append 14 = .ok (.if_icmp .ge 35, 3) := by decide +kernel
theorem dX7_append_17 : decode cX7_append 17 = .ok (.aload_n 0, 1) := by decide +kernel
theorem dX7_append_18 : decode cX7_append 18 = .ok (.getfield 9, 3) := by decide +kernel
theorem dX7_append_21 : decode cX7_append 21 = .ok (.aload_n 0, 1) := by decide +kernel
theorem dX7_append_22 : decode cX7_append 22 = .ok (.getfield 15, 3) := by decide +kernel
theorem dX7_append_25 : decode cX7_append 25 = .ok (.iload_n 1, 1) := by decide +kernel
theorem dX7_append_26 : decode cX7_append 26 = .ok (.iload_n 2, 1) := by decide +kernel
theorem dX7_append_27 : decode cX7_append 27 = .ok (.iushr, 1) := by decide +kernel
theorem dX7_append_28 : decode cX7_append 28 = .ok (.sipush 255, 3) := by decide +kernel
theorem dX7_append_31 : decode cX7_append 31 = .ok (.iand, 1) := by decide +kernel
theorem dX7_append_32 : decode cX7_append 32 = .ok (.iastore, 1) := by decide +kernel
theorem dX7_append_33 : decode cX7_append 33 = .ok (.aload_n 0, 1) := by decide +kernel
theorem dX7_append_34 : decode cX7_append 34 = .ok (.dup, 1) := by decide +kernel
theorem dX7_append_35 : decode cX7_append 35 = .ok (.getfield 15, 3) := by decide +kernel
theorem dX7_append_38 : decode cX7_append 38 = .ok (.iconst 1, 1) := by decide +kernel
theorem dX7_append_39 : decode cX7_append 39 = .ok (.iadd, 1) := by decide +kernel
theorem dX7_append_40 : decode cX7_append 40 = .ok (.putfield 15, 3) := by decide +kernel
theorem dX7_append_43 : decode cX7_append 43 = .ok (.iinc 2 (-8), 3) := by decide +kernel
theorem dX7_append_46 : decode cX7_append 46 = .ok (.goto (-43), 3) := by decide +kernel
theorem dX7_append_49 : decode cX7_append 49 = .ok (.return_, 1) := by decide +kernel
theorem dX8_init_0 : decode cX8_init 0 = .ok (.aload_n 0, 1) := by decide +kernel
theorem dX8_init_1 : decode cX8_init 1 = .ok (.invokespecial 1, 3) := by decide +kernel
theorem dX8_init_4 : decode cX8_init 4 = .ok (.new 7, 3) := by decide +kernel
theorem dX8_init_7 : decode cX8_init 7 = .ok (.dup, 1) := by decide +kernel
theorem dX8_init_8 : decode cX8_init 8 = .ok (.invokespecial 9, 3) := by decide +kernel
theorem dX8_init_11 : decode cX8_init 11 = .ok (.astore_n 1, 1) := by decide +kernel
theorem dX8_init_12 : decode cX8_init 12 = .ok (.new 10, 3) := by decide +kernel
theorem dX8_init_15 : decode cX8_init 15 = .ok (.dup, 1) := by decide +kernel
theorem dX8_init_16 : decode cX8_init 16 = .ok (.invokespecial 12, 3) := by decide +kernel
theorem dX8_init_19 : decode cX8_init 19 = .ok (.astore_n 2, 1) := by decide +kernel
theorem dX8_init_20 : decode cX8_init 20 = .ok (.aload_n 0, 1) := by decide +kernel
theorem dX8_init_21 : decode cX8_init 21 = .ok (.aload_n 1, 1) := by decide +kernel
theorem dX8_init_22 : decode cX8_init 22 = .ok (.putfield 13, 3) := by decide +kernel
theorem dX8_init_25 : decode cX8_init 25 = .ok (.aload_n 0, 1) := by decide +kernel
theorem dX8_init_26 : decode cX8_init 26 = .ok (.new 19, 3) := by decide +kernel
theorem dX8_init_29 : decode cX8_init 29 = .ok (.dup, 1) := by decide +kernel
theorem dX8_init_30 : decode cX8_init 30 = .ok (.aload_n 1, 1) := by decide +kernel
theorem dX8_init_31 : decode cX8_init 31 = .ok (.invokespecial 21, 3) := by decide +kernel
theorem dX8_init_34 : decode cX8_init 34 = .ok (.putfield 24, 3) := by decide +kernel
theorem dX8_init_37 : decode cX8_init 37 = .ok (.aload_n 0, 1) := by decide +kernel
theorem dX8_init_38 : decode cX8_init 38 = .ok (.aload_n 2, 1) := by decide +kernel
theorem dX8_init_39 : decode cX8_init 39 = .ok (.putfield 28, 3) := by decide +kernel
theorem dX8_init_42 : decode cX8_init 42 = .ok (.aload_n 0, 1) := by decide +kernel
theorem dX8_init_43 : decode cX8_init 43 = .ok (.new 32, 3) := by decide +kernel
theorem dX8_init_46 : decode cX8_init 46 = .ok (.dup, 1) := by decide +kernel
theorem dX8_init_47 : decode cX8_init 47 = .ok (.aload_n 2, 1) := by decide +kernel
theorem dX8_init_48 : decode cX8_init 48 = .ok (.invokespecial 34, 3) := by decide +kernel
theorem dX8_init_51 : decode cX8_init 51 = .ok (.putfield 37, 3) := by decide +kernel
theorem dX8_init_54 : decode cX8_init 54 = .ok (.aload_n 0, 1) := by decide +kernel
theorem dX8_init_55 : decode cX8_init 55 = .ok (.iconst 1, 1) := by decide +kernel
theorem dX8_init_56 : decode cX8_init 56 = .ok (.putfield 41, 3) := by decide +kernel
theorem dX8_init_59 : decode cX8_init 59 = .ok (.return_, 1) := by decide +kernel
theorem dX8_feed_0 : decode cX8_feed 0 = .ok (.aload_n 0, 1) := by decide +kernel
theorem dX8_feed_1 : decode cX8_feed 1 = .ok (.getfield 13, 3) := by decide +kernel
theorem dX8_feed_4 : decode cX8_feed 4 = .ok (.getfield 45, 3) := by decide +kernel
theorem dX8_feed_7 : decode cX8_feed 7 = .ok (.bipush 20, 2) := by decide +kernel
theorem dX8_feed_9 : decode cX8_feed 9 = .ok (.iadd, 1) := by decide +kernel
theorem dX8_feed_10 : decode cX8_feed 10 = .ok (.sipush 2000, 3) := by decide +kernel
theorem dX8_feed_13 : decode cX8_feed 13 = .ok (.if_icmp .le 5, 3) := by decide +kernel
theorem dX8_feed_16 : decode cX8_feed 16 = .ok (.iconst (-1), 1) := by decide +kernel
theorem dX8_feed_17 : decode cX8_feed 17 = .ok (.ireturn, 1) := by decide +kernel
theorem dX8_feed_18 : decode cX8_feed 18 = .ok (.aload_n 0, 1) := by decide +kernel
theorem dX8_feed_19 : decode cX8_feed 19 = .ok (.getfield 13, 3) := by decide +kernel
theorem dX8_feed_22 : decode cX8_feed 22 = .ok (.iload_n 1, 1) := by decide +kernel
theorem dX8_feed_23 : decode cX8_feed 23 = .ok (.invokevirtual 49, 3) := by decide +kernel
theorem dX8_feed_26 : decode cX8_feed 26 = .ok (.aload_n 0, 1) := by decide +kernel
theorem dX8_feed_27 : decode cX8_feed 27 = .ok (.getfield 13, 3) := by decide +kernel
theorem dX8_feed_30 : decode cX8_feed 30 = .ok (.iload_n 2, 1) := by decide +kernel
theorem dX8_feed_31 : decode cX8_feed 31 = .ok (.invokevirtual 49, 3) := by decide +kernel
theorem dX8_feed_34 : decode cX8_feed 34 = .ok (.aload_n 0, 1) := by decide +kernel
theorem dX8_feed_35 : decode cX8_feed 35 = .ok (.getfield 13, 3) := by decide +kernel
theorem dX8_feed_38 : decode cX8_feed 38 = .ok (.iload_n 3, 1) := by decide +kernel
theorem dX8_feed_39 : decode cX8_feed 39 = .ok (.invokevirtual 49, 3) := by decide +kernel
theorem dX8_feed_42 : decode cX8_feed 42 = .ok (.aload_n 0, 1) := by decide +kernel
theorem dX8_feed_43 : decode cX8_feed 43 = .ok (.getfield 13, 3) := by decide +kernel
theorem dX8_feed_46 : decode cX8_feed 46 = .ok (.iload 4, 2) := by decide +kernel
theorem dX8_feed_48 : decode cX8_feed 48 = .ok (.invokevirtual 49, 3) := by decide +kernel
theorem dX8_feed_51 : decode cX8_feed 51 = .ok (.aload_n 0, 1) := by decide +kernel
theorem dX8_feed_52 : decode cX8_feed 52 = .ok (.getfield 13, 3) := by decide +kernel
theorem dX8_feed_55 : decode cX8_feed 55 = .ok (.iload 5, 2) := by decide +kernel
theorem dX8_feed_57 : decode cX8_feed 57 = .ok (.invokevirtual 49, 3) := by decide +kernel
theorem dX8_feed_60 : decode cX8_feed 60 = .ok (.aload_n 0, 1) := by decide +kernel
theorem dX8_feed_61 : decode cX8_feed 61 = .ok (.getfield 13, 3) := by decide +kernel
theorem dX8_feed_64 : decode cX8_feed 64 = .ok (.getfield 45, 3) := by decide +kernel
theorem dX8_feed_67 : decode cX8_feed 67 = .ok (.ireturn, 1) := by decide +kernel
theorem dX8_back_0 : decode cX8_back 0 = .ok (.iload_n 1, 1) := by decide +kernel
theorem dX8_back_1 : decode cX8_back 1 = .ok (.ifCond .lt 14, 3) := by decide +kernel
theorem dX8_back_4 : decode cX8_back 4 = .ok (.iload_n 1, 1) := by decide +kernel
theorem dX8_back_5 : decode cX8_back 5 = .ok (.aload_n 0, 1) := by decide +kernel
theorem dX8_back_6 : decode cX8_back 6 = .ok (.getfield 13, 3) := by decide +kernel
theorem dX8_back_9 : decode cX8_back 9 = .ok (.getfield 45, 3) := by decide +kernel
theorem dX8_back_12 : decode cX8_back 12 = .ok (.if_icmp .le 5, 3) := by decide +kernel
theorem dX8_back_15 : decode cX8_back 15 = .ok (.iconst (-1), 1) := by decide +kernel
theorem dX8_back_16 : decode cX8_back 16 = .ok (.ireturn, 1) := by decide +kernel
theorem dX8_back_17 : decode cX8_back 17 = .ok (.aload_n 0, 1) := by decide +kernel
theorem dX8_back_18 : decode cX8_back 18 = .ok (.getfield 13, 3) := by decide +kernel
theorem dX8_back_21 : decode cX8_back 21 = .ok (.dup, 1) := by decide +kernel
theorem dX8_back_22 : decode cX8_back 22 = .ok (.getfield 45, 3) := by decide +kernel
theorem dX8_back_25 : decode cX8_back 25 = .ok (.iload_n 1, 1) := by decide +kernel
theorem dX8_back_26 : decode cX8_back 26 = .ok (.isub, 1) := by decide +kernel
theorem dX8_back_27 : decode cX8_back 27 = .ok (.putfield 45, 3) := by decide +kernel
theorem dX8_back_30 : decode cX8_back 30 = .ok (.aload_n 0, 1) := by decide +kernel
theorem dX8_back_31 : decode cX8_back 31 = .ok (.getfield 13, 3) := by decide +kernel
theorem dX8_back_34 : decode cX8_back 34 = .ok (.getfield 45, 3) := by decide +kernel
theorem dX8_back_37 : decode cX8_back 37 = .ok (.ireturn, 1) := by decide +kernel
theorem dX8_read_0 : decode cX8_read 0 = .ok (.iload_n 1, 1) := by decide +kernel
theorem dX8_read_1 : decode cX8_read 1 = .ok (.iconst 2, 1) := by decide +kernel
theorem dX8_read_2 : decode cX8_read 2 = .ok (.invokestatic 53, 3) := by decide +kernel
theorem dX8_read_5 : decode cX8_read 5 = .ok (.ifCond .ne 5, 3) := by decide +kernel
theorem dX8_read_8 : decode cX8_read 8 = .ok (.iconst (-1), 1) := by decide +kernel
theorem dX8_read_9 : decode cX8_read 9 = .ok (.ireturn, 1) := by decide +kernel
theorem dX8_read_10 : decode cX8_read 10 = .ok (.aload_n 0, 1) := by decide +kernel
theorem dX8_read_11 : decode cX8_read 11 = .ok (.getfield 24, 3) := by decide +kernel
theorem dX8_read_14 : decode cX8_read 14 = .ok (.invokevirtual 57, 3) := by decide +kernel
theorem dX8_read_17 : decode cX8_read 17 = .ok (.istore_n 2, 1) := by decide +kernel
theorem dX8_read_18 : decode cX8_read 18 = .ok (.aload_n 0, 1) := by decide +kernel
theorem dX8_read_19 : decode cX8_read 19 = .ok (.getfield 13, 3) := by decide +kernel
theorem dX8_read_22 : decode cX8_read 22 = .ok (.iconst 0, 1) := by decide +kernel
theorem dX8_read_23 : decode cX8_read 23 = .ok (.putfield 45, 3) := by decide +kernel
theorem dX8_read_26 : decode cX8_read 26 = .ok (.iload_n 2, 1) := by decide +kernel
theorem dX8_read_27 : decode cX8_read 27 = .ok (.ifCond .ne 33, 3) := by decide +kernel
theorem dX8_read_30 : decode cX8_read 30 = .ok (.aload_n 0, 1) := by decide +kernel
theorem dX8_read_31 : decode cX8_read 31 = .ok (.getfield 28, 3) := by decide +kernel
theorem dX8_read_34 : decode cX8_read 34 = .ok (.getfield 61, 3) := by decide +kernel
theorem dX8_read_37 : decode cX8_read 37 = .ok (.iload_n 1, 1) := by decide +kernel
theorem dX8_read_38 : decode cX8_read 38 = .ok (.aload_n 0, 1) := by decide +kernel
theorem dX8_read_39 : decode cX8_read 39 = .ok (.getfield 24, 3) := by decide +kernel
theorem dX8_read_42 : decode cX8_read 42 = .ok (.aload_n 0, 1) := by decide +kernel
theorem dX8_read_43 : decode cX8_read 43 = .ok (.getfield 28, 3) := by decide +kernel
theorem dX8_read_46 : decode cX8_read 46 = .ok (.getfield 61, 3) := by decide +kernel
theorem dX8_read_49 : decode cX8_read 49 = .ok (.iload_n 1, 1) := by decide +kernel
theorem dX8_read_50 : decode cX8_read 50 = .ok (.aaload, 1) := by decide +kernel
theorem dX8_read_51 : decode cX8_read 51 = .ok (.invokevirtual 65, 3) := by decide +kernel
theorem dX8_read_54 : decode cX8_read 54 = .ok (.aastore, 1) := by decide +kernel
theorem dX8_read_55 : decode cX8_read 55 = .ok (.aload_n 0, 1) := by decide +kernel
theorem dX8_read_56 : decode cX8_read 56 = .ok (.iconst 1, 1) := by decide +kernel
theorem dX8_read_57 : decode cX8_read 57 = .ok (.putfield 41, 3) := by decide +kernel
theorem dX8_read_60 : decode cX8_read 60 = .ok (.iload_n 2, 1) := by decide +kernel
theorem dX8_read_61 : decode cX8_read 61 = .ok (.ireturn, 1) := by decide +kernel
theorem dX8_place_0 : decode cX8_place 0 = .ok (.aload_n 0, 1) := by decide +kernel
theorem dX8_place_1 : decode cX8_place 1 = .ok (.getfield 24, 3) := by decide +kernel
theorem dX8_place_4 : decode cX8_place 4 = .ok (.getfield 69, 3) := by decide +kernel
theorem dX8_place_7 : decode cX8_place 7 = .ok (.ireturn, 1) := by decide +kernel
theorem dX8_machine_0 : decode cX8_machine 0 = .ok (.aload_n 0, 1) := by decide +kernel
theorem dX8_machine_1 : decode cX8_machine 1 = .ok (.getfield 28, 3) := by decide +kernel
theorem dX8_machine_4 : decode cX8_machine 4 = .ok (.getfield 72, 3) := by decide +kernel
theorem dX8_machine_7 : decode cX8_machine 7 = .ok (.bipush 8, 2) := by decide +kernel
theorem dX8_machine_9 : decode cX8_machine 9 = .ok (.if_icmp .ge 29, 3) := by decide +kernel
theorem dX8_machine_12 : decode cX8_machine 12 = .ok (.iload_n 1, 1) := by decide +kernel
theorem dX8_machine_13 : decode cX8_machine 13 = .ok (.iconst 4, 1) := by decide +kernel
theorem dX8_machine_14 : decode cX8_machine 14 = .ok (.invokestatic 53, 3) := by decide +kernel
theorem dX8_machine_17 : decode cX8_machine 17 = .ok (.ifCond .eq 21, 3) := by decide +kernel
theorem dX8_machine_20 : decode cX8_machine 20 = .ok (.iload_n 2, 1) := by decide +kernel
theorem dX8_machine_21 : decode cX8_machine 21 = .ok (.bipush 8, 2) := by decide +kernel
theorem dX8_machine_23 : decode cX8_machine 23 = .ok (.invokestatic 53, 3) := by decide +kernel
theorem dX8_machine_26 : decode cX8_machine 26 = .ok (.ifCond .eq 12, 3) := by decide +kernel
theorem dX8_machine_29 : decode cX8_machine 29 = .ok (.iload_n 3, 1) := by decide +kernel
theorem dX8_machine_30 : decode cX8_machine 30 = .ok (.bipush 100, 2) := by decide +kernel
theorem dX8_machine_32 : decode cX8_machine 32 = .ok (.invokestatic 53, 3) := by decide +kernel
theorem dX8_machine_35 : decode cX8_machine 35 = .ok (.ifCond .ne 5, 3) := by decide +kernel
theorem dX8_machine_38 : decode cX8_machine 38 = .ok (.iconst (-1), 1) := by decide +kernel
theorem dX8_machine_39 : decode cX8_machine 39 = .ok (.ireturn, 1) := by decide +kernel
theorem dX8_machine_40 : decode cX8_machine 40 = .ok (.aload_n 0, 1) := by decide +kernel
theorem dX8_machine_41 : decode cX8_machine 41 = .ok (.iconst 1, 1) := by decide +kernel
theorem dX8_machine_42 : decode cX8_machine 42 = .ok (.putfield 41, 3) := by decide +kernel
theorem dX8_machine_45 : decode cX8_machine 45 = .ok (.aload_n 0, 1) := by decide +kernel
theorem dX8_machine_46 : decode cX8_machine 46 = .ok (.getfield 28, 3) := by decide +kernel
theorem dX8_machine_49 : decode cX8_machine 49 = .ok (.iload_n 1, 1) := by decide +kernel
theorem dX8_machine_50 : decode cX8_machine 50 = .ok (.iload_n 2, 1) := by decide +kernel
theorem dX8_machine_51 : decode cX8_machine 51 = .ok (.iload_n 3, 1) := by decide +kernel
theorem dX8_machine_52 : decode cX8_machine 52 = .ok (.invokevirtual 75, 3) := by decide +kernel
theorem dX8_machine_55 : decode cX8_machine 55 = .ok (.ireturn, 1) := by decide +kernel
theorem dX8_file_0 : decode cX8_file 0 = .ok (.aload_n 0, 1) := by decide +kernel
theorem dX8_file_1 : decode cX8_file 1 = .ok (.getfield 28, 3) := by decide +kernel
theorem dX8_file_4 : decode cX8_file 4 = .ok (.getfield 79, 3) := by decide +kernel
theorem dX8_file_7 : decode cX8_file 7 = .ok (.bipush 6, 2) := by decide +kernel
theorem dX8_file_9 : decode cX8_file 9 = .ok (.if_icmp .ge 25, 3) := by decide +kernel
theorem dX8_file_12 : decode cX8_file 12 = .ok (.iload_n 1, 1) := by decide +kernel
theorem dX8_file_13 : decode cX8_file 13 = .ok (.iconst 1, 1) := by decide +kernel
theorem dX8_file_14 : decode cX8_file 14 = .ok (.if_icmp .lt 20, 3) := by decide +kernel
theorem dX8_file_17 : decode cX8_file 17 = .ok (.iload_n 1, 1) := by decide +kernel
theorem dX8_file_18 : decode cX8_file 18 = .ok (.bipush 12, 2) := by decide +kernel
theorem dX8_file_20 : decode cX8_file 20 = .ok (.if_icmp .gt 14, 3) := by decide +kernel
theorem dX8_file_23 : decode cX8_file 23 = .ok (.iload_n 2, 1) := by decide +kernel
theorem dX8_file_24 : decode cX8_file 24 = .ok (.iconst (-1), 1) := by decide +kernel
theorem dX8_file_25 : decode cX8_file 25 = .ok (.if_icmp .lt 9, 3) := by decide +kernel
theorem dX8_file_28 : decode cX8_file 28 = .ok (.iload_n 2, 1) := by decide +kernel
theorem dX8_file_29 : decode cX8_file 29 = .ok (.bipush 6, 2) := by decide +kernel
theorem dX8_file_31 : decode cX8_file 31 = .ok (.if_icmp .lt 5, 3) := by decide +kernel
theorem dX8_file_34 : decode cX8_file 34 = .ok (.iconst (-1), 1) := by decide +kernel
theorem dX8_file_35 : decode cX8_file 35 = .ok (.ireturn, 1) := by decide +kernel
theorem dX8_file_36 : decode cX8_file 36 = .ok (.aload_n 0, 1) := by decide +kernel
theorem dX8_file_37 : decode cX8_file 37 = .ok (.iconst 1, 1) := by decide +kernel
theorem dX8_file_38 : decode cX8_file 38 = .ok (.putfield 41, 3) := by decide +kernel
theorem dX8_file_41 : decode cX8_file 41 = .ok (.aload_n 0, 1) := by decide +kernel
theorem dX8_file_42 : decode cX8_file 42 = .ok (.getfield 28, 3) := by decide +kernel
theorem dX8_file_45 : decode cX8_file 45 = .ok (.iload_n 1, 1) := by decide +kernel
theorem dX8_file_46 : decode cX8_file 46 = .ok (.iload_n 2, 1) := by decide +kernel
theorem dX8_file_47 : decode cX8_file 47 = .ok (.invokevirtual 82, 3) := by decide +kernel
theorem dX8_file_50 : decode cX8_file 50 = .ok (.ireturn, 1) := by decide +kernel
theorem dX8_width_0 : decode cX8_width 0 = .ok (.iload_n 1, 1) := by decide +kernel
theorem dX8_width_1 : decode cX8_width 1 = .ok (.iconst 1, 1) := by decide +kernel
theorem dX8_width_2 : decode cX8_width 2 = .ok (.if_icmp .lt 9, 3) := by decide +kernel
theorem dX8_width_5 : decode cX8_width 5 = .ok (.iload_n 1, 1) := by decide +kernel
theorem dX8_width_6 : decode cX8_width 6 = .ok (.bipush 8, 2) := by decide +kernel
theorem dX8_width_8 : decode cX8_width 8 = .ok (.if_icmp .le 5, 3) := by decide +kernel
theorem dX8_width_11 : decode cX8_width 11 = .ok (.iconst 0, 1) := by decide +kernel
theorem dX8_width_12 : decode cX8_width 12 = .ok (.ireturn, 1) := by decide +kernel
theorem dX8_width_13 : decode cX8_width 13 = .ok (.aload_n 0, 1) := by decide +kernel
theorem dX8_width_14 : decode cX8_width 14 = .ok (.getfield 28, 3) := by decide +kernel
theorem dX8_width_17 : decode cX8_width 17 = .ok (.iload_n 1, 1) := by decide +kernel
theorem dX8_width_18 : decode cX8_width 18 = .ok (.putfield 86, 3) := by decide +kernel
theorem dX8_width_21 : decode cX8_width 21 = .ok (.aload_n 0, 1) := by decide +kernel
theorem dX8_width_22 : decode cX8_width 22 = .ok (.iconst 1, 1) := by decide +kernel
theorem dX8_width_23 : decode cX8_width 23 = .ok (.putfield 41, 3) := by decide +kernel
theorem dX8_width_26 : decode cX8_width 26 = .ok (.iconst 1, 1) := by decide +kernel
theorem dX8_width_27 : decode cX8_width 27 = .ok (.ireturn, 1) := by decide +kernel
theorem dX8_wake_0 : decode cX8_wake 0 = .ok (.iload_n 1, 1) := by decide +kernel
theorem dX8_wake_1 : decode cX8_wake 1 = .ok (.iconst 4, 1) := by decide +kernel
theorem dX8_wake_2 : decode cX8_wake 2 = .ok (.invokestatic 53, 3) := by decide +kernel
theorem dX8_wake_5 : decode cX8_wake 5 = .ok (.ifCond .eq 13, 3) := by decide +kernel
theorem dX8_wake_8 : decode cX8_wake 8 = .ok (.iload_n 2, 1) := by decide +kernel
theorem dX8_wake_9 : decode cX8_wake 9 = .ok (.sipush 300, 3) := by decide +kernel
theorem dX8_wake_12 : decode cX8_wake 12 = .ok (.invokestatic 53, 3) := by decide +kernel
theorem dX8_wake_15 : decode cX8_wake 15 = .ok (.ifCond .ne 5, 3) := by decide +kernel
theorem dX8_wake_18 : decode cX8_wake 18 = .ok (.iconst 0, 1) := by decide +kernel
theorem dX8_wake_19 : decode cX8_wake 19 = .ok (.ireturn, 1) := by decide +kernel
theorem dX8_wake_20 : decode cX8_wake 20 = .ok (.aload_n 0, 1) := by decide +kernel
theorem dX8_wake_21 : decode cX8_wake 21 = .ok (.getfield 28, 3) := by decide +kernel
theorem dX8_wake_24 : decode cX8_wake 24 = .ok (.getfield 89, 3) := by decide +kernel
theorem dX8_wake_27 : decode cX8_wake 27 = .ok (.iload_n 1, 1) := by decide +kernel
theorem dX8_wake_28 : decode cX8_wake 28 = .ok (.iload_n 2, 1) := by decide +kernel
theorem dX8_wake_29 : decode cX8_wake 29 = .ok (.iastore, 1) := by decide +kernel
theorem dX8_wake_30 : decode cX8_wake 30 = .ok (.aload_n 0, 1) := by decide +kernel
theorem dX8_wake_31 : decode cX8_wake 31 = .ok (.iconst 1, 1) := by decide +kernel
theorem dX8_wake_32 : decode cX8_wake 32 = .ok (.putfield 41, 3) := by decide +kernel
theorem dX8_wake_35 : decode cX8_wake 35 = .ok (.iconst 1, 1) := by decide +kernel
theorem dX8_wake_36 : decode cX8_wake 36 = .ok (.ireturn, 1) := by decide +kernel
theorem dX8_lose_0 : decode cX8_lose 0 = .ok (.aload_n 0, 1) := by decide +kernel
theorem dX8_lose_1 : decode cX8_lose 1 = .ok (.getfield 28, 3) := by decide +kernel
theorem dX8_lose_4 : decode cX8_lose 4 = .ok (.getfield 93, 3) := by decide +kernel
theorem dX8_lose_7 : decode cX8_lose 7 = .ok (.invokevirtual 97, 3) := by decide +kernel
theorem dX8_lose_10 : decode cX8_lose 10 = .ok (.ifCond .ne 27, 3) := by decide +kernel
theorem dX8_lose_13 : decode cX8_lose 13 = .ok (.iload_n 1, 1) := by decide +kernel
theorem dX8_lose_14 : decode cX8_lose 14 = .ok (.aload_n 0, 1) := by decide +kernel
theorem dX8_lose_15 : decode cX8_lose 15 = .ok (.getfield 28, 3) := by decide +kernel
theorem dX8_lose_18 : decode cX8_lose 18 = .ok (.getfield 72, 3) := by decide +kernel
theorem dX8_lose_21 : decode cX8_lose 21 = .ok (.invokestatic 53, 3) := by decide +kernel
theorem dX8_lose_24 : decode cX8_lose 24 = .ok (.ifCond .eq 13, 3) := by decide +kernel
theorem dX8_lose_27 : decode cX8_lose 27 = .ok (.iload_n 2, 1) := by decide +kernel
theorem dX8_lose_28 : decode cX8_lose 28 = .ok (.sipush 300, 3) := by decide +kernel
theorem dX8_lose_31 : decode cX8_lose 31 = .ok (.invokestatic 53, 3) := by decide +kernel
theorem dX8_lose_34 : decode cX8_lose 34 = .ok (.ifCond .ne 5, 3) := by decide +kernel
theorem dX8_lose_37 : decode cX8_lose 37 = .ok (.iconst (-1), 1) := by decide +kernel
theorem dX8_lose_38 : decode cX8_lose 38 = .ok (.ireturn, 1) := by decide +kernel
theorem dX8_lose_39 : decode cX8_lose 39 = .ok (.aload_n 0, 1) := by decide +kernel
theorem dX8_lose_40 : decode cX8_lose 40 = .ok (.iconst 1, 1) := by decide +kernel
theorem dX8_lose_41 : decode cX8_lose 41 = .ok (.putfield 41, 3) := by decide +kernel
theorem dX8_lose_44 : decode cX8_lose 44 = .ok (.aload_n 0, 1) := by decide +kernel
theorem dX8_lose_45 : decode cX8_lose 45 = .ok (.getfield 28, 3) := by decide +kernel
theorem dX8_lose_48 : decode cX8_lose 48 = .ok (.getfield 93, 3) := by decide +kernel
theorem dX8_lose_51 : decode cX8_lose 51 = .ok (.iload_n 1, 1) := by decide +kernel
theorem dX8_lose_52 : decode cX8_lose 52 = .ok (.iload_n 2, 1) := by decide +kernel
theorem dX8_lose_53 : decode cX8_lose 53 = .ok (.invokevirtual 103, 3) := by decide +kernel
theorem dX8_lose_56 : decode cX8_lose 56 = .ok (.ireturn, 1) := by decide +kernel
theorem dX8_spoil_0 : decode cX8_spoil 0 = .ok (.aload_n 0, 1) := by decide +kernel
theorem dX8_spoil_1 : decode cX8_spoil 1 = .ok (.getfield 28, 3) := by decide +kernel
theorem dX8_spoil_4 : decode cX8_spoil 4 = .ok (.getfield 93, 3) := by decide +kernel
theorem dX8_spoil_7 : decode cX8_spoil 7 = .ok (.invokevirtual 97, 3) := by decide +kernel
theorem dX8_spoil_10 : decode cX8_spoil 10 = .ok (.ifCond .ne 25, 3) := by decide +kernel
theorem dX8_spoil_13 : decode cX8_spoil 13 = .ok (.aload_n 0, 1) := by decide +kernel
theorem dX8_spoil_14 : decode cX8_spoil 14 = .ok (.getfield 28, 3) := by decide +kernel
theorem dX8_spoil_17 : decode cX8_spoil 17 = .ok (.iload_n 1, 1) := by decide +kernel
theorem dX8_spoil_18 : decode cX8_spoil 18 = .ok (.iload_n 2, 1) := by decide +kernel
theorem dX8_spoil_19 : decode cX8_spoil 19 = .ok (.invokevirtual 106, 3) := by decide +kernel
theorem dX8_spoil_22 : decode cX8_spoil 22 = .ok (.ifCond .eq 13, 3) := by decide +kernel
theorem dX8_spoil_25 : decode cX8_spoil 25 = .ok (.iload_n 3, 1) := by decide +kernel
theorem dX8_spoil_26 : decode cX8_spoil 26 = .ok (.sipush 300, 3) := by decide +kernel
theorem dX8_spoil_29 : decode cX8_spoil 29 = .ok (.invokestatic 53, 3) := by decide +kernel
theorem dX8_spoil_32 : decode cX8_spoil 32 = .ok (.ifCond .ne 5, 3) := by decide +kernel
theorem dX8_spoil_35 : decode cX8_spoil 35 = .ok (.iconst (-1), 1) := by decide +kernel
theorem dX8_spoil_36 : decode cX8_spoil 36 = .ok (.ireturn, 1) := by decide +kernel
theorem dX8_spoil_37 : decode cX8_spoil 37 = .ok (.aload_n 0, 1) := by decide +kernel
theorem dX8_spoil_38 : decode cX8_spoil 38 = .ok (.iconst 1, 1) := by decide +kernel
theorem dX8_spoil_39 : decode cX8_spoil 39 = .ok (.putfield 41, 3) := by decide +kernel
theorem dX8_spoil_42 : decode cX8_spoil 42 = .ok (.aload_n 0, 1) := by decide +kernel
theorem dX8_spoil_43 : decode cX8_spoil 43 = .ok (.getfield 28, 3) := by decide +kernel
theorem dX8_spoil_46 : decode cX8_spoil 46 = .ok (.getfield 93, 3) := by decide +kernel
theorem dX8_spoil_49 : decode cX8_spoil 49 = .ok (.iload_n 1, 1) := by decide +kernel
theorem dX8_spoil_50 : decode cX8_spoil 50 = .ok (.bipush 12, 2) := by decide +kernel
theorem dX8_spoil_52 : decode cX8_spoil 52 = .ok (.imul, 1) := by decide +kernel
theorem dX8_spoil_53 : decode cX8_spoil 53 = .ok (.iload_n 2, 1) := by decide +kernel
theorem dX8_spoil_54 : decode cX8_spoil 54 = .ok (.iadd, 1) := by decide +kernel
theorem dX8_spoil_55 : decode cX8_spoil 55 = .ok (.iload_n 3, 1) := by decide +kernel
theorem dX8_spoil_56 : decode cX8_spoil 56 = .ok (.invokevirtual 109, 3) := by decide +kernel
theorem dX8_spoil_59 : decode cX8_spoil 59 = .ok (.ireturn, 1) := by decide +kernel
theorem dX8_down_0 : decode cX8_down 0 = .ok (.aload_n 0, 1) := by decide +kernel
theorem dX8_down_1 : decode cX8_down 1 = .ok (.getfield 28, 3) := by decide +kernel
theorem dX8_down_4 : decode cX8_down 4 = .ok (.getfield 93, 3) := by decide +kernel
theorem dX8_down_7 : decode cX8_down 7 = .ok (.invokevirtual 97, 3) := by decide +kernel
theorem dX8_down_10 : decode cX8_down 10 = .ok (.ifCond .ne 26, 3) := by decide +kernel
theorem dX8_down_13 : decode cX8_down 13 = .ok (.iload_n 1, 1) := by decide +kernel
theorem dX8_down_14 : decode cX8_down 14 = .ok (.iconst 2, 1) := by decide +kernel
theorem dX8_down_15 : decode cX8_down 15 = .ok (.invokestatic 53, 3) := by decide +kernel
theorem dX8_down_18 : decode cX8_down 18 = .ok (.ifCond .eq 18, 3) := by decide +kernel
theorem dX8_down_21 : decode cX8_down 21 = .ok (.iload_n 2, 1) := by decide +kernel
theorem dX8_down_22 : decode cX8_down 22 = .ok (.iload_n 3, 1) := by decide +kernel
theorem dX8_down_23 : decode cX8_down 23 = .ok (.invokestatic 53, 3) := by decide +kernel
theorem dX8_down_26 : decode cX8_down 26 = .ok (.ifCond .eq 10, 3) := by decide +kernel
theorem dX8_down_29 : decode cX8_down 29 = .ok (.iload_n 3, 1) := by decide +kernel
theorem dX8_down_30 : decode cX8_down 30 = .ok (.sipush 300, 3) := by decide +kernel
theorem dX8_down_33 : decode cX8_down 33 = .ok (.if_icmp .le 5, 3) := by decide +kernel
theorem dX8_down_36 : decode cX8_down 36 = .ok (.iconst (-1), 1) := by decide +kernel
theorem dX8_down_37 : decode cX8_down 37 = .ok (.ireturn, 1) := by decide +kernel
theorem dX8_down_38 : decode cX8_down 38 = .ok (.aload_n 0, 1) := by decide +kernel
theorem dX8_down_39 : decode cX8_down 39 = .ok (.iconst 1, 1) := by decide +kernel
theorem dX8_down_40 : decode cX8_down 40 = .ok (.putfield 41, 3) := by decide +kernel
theorem dX8_down_43 : decode cX8_down 43 = .ok (.aload_n 0, 1) := by decide +kernel
theorem dX8_down_44 : decode cX8_down 44 = .ok (.getfield 28, 3) := by decide +kernel
theorem dX8_down_47 : decode cX8_down 47 = .ok (.getfield 93, 3) := by decide +kernel
theorem dX8_down_50 : decode cX8_down 50 = .ok (.iload_n 1, 1) := by decide +kernel
theorem dX8_down_51 : decode cX8_down 51 = .ok (.iload_n 2, 1) := by decide +kernel
theorem dX8_down_52 : decode cX8_down 52 = .ok (.iload_n 3, 1) := by decide +kernel
theorem dX8_down_53 : decode cX8_down 53 = .ok (.invokevirtual 112, 3) := by decide +kernel
theorem dX8_down_56 : decode cX8_down 56 = .ok (.ireturn, 1) := by decide +kernel
theorem dX8_cut_0 : decode cX8_cut 0 = .ok (.aload_n 0, 1) := by decide +kernel
theorem dX8_cut_1 : decode cX8_cut 1 = .ok (.getfield 28, 3) := by decide +kernel
theorem dX8_cut_4 : decode cX8_cut 4 = .ok (.getfield 93, 3) := by decide +kernel
theorem dX8_cut_7 : decode cX8_cut 7 = .ok (.invokevirtual 97, 3) := by decide +kernel
theorem dX8_cut_10 : decode cX8_cut 10 = .ok (.ifCond .ne 27, 3) := by decide +kernel
theorem dX8_cut_13 : decode cX8_cut 13 = .ok (.iload_n 1, 1) := by decide +kernel
theorem dX8_cut_14 : decode cX8_cut 14 = .ok (.aload_n 0, 1) := by decide +kernel
theorem dX8_cut_15 : decode cX8_cut 15 = .ok (.getfield 28, 3) := by decide +kernel
theorem dX8_cut_18 : decode cX8_cut 18 = .ok (.getfield 72, 3) := by decide +kernel
theorem dX8_cut_21 : decode cX8_cut 21 = .ok (.invokestatic 53, 3) := by decide +kernel
theorem dX8_cut_24 : decode cX8_cut 24 = .ok (.ifCond .eq 13, 3) := by decide +kernel
theorem dX8_cut_27 : decode cX8_cut 27 = .ok (.iload_n 2, 1) := by decide +kernel
theorem dX8_cut_28 : decode cX8_cut 28 = .ok (.sipush 300, 3) := by decide +kernel
theorem dX8_cut_31 : decode cX8_cut 31 = .ok (.invokestatic 53, 3) := by decide +kernel
theorem dX8_cut_34 : decode cX8_cut 34 = .ok (.ifCond .ne 5, 3) := by decide +kernel
theorem dX8_cut_37 : decode cX8_cut 37 = .ok (.iconst (-1), 1) := by decide +kernel
theorem dX8_cut_38 : decode cX8_cut 38 = .ok (.ireturn, 1) := by decide +kernel
theorem dX8_cut_39 : decode cX8_cut 39 = .ok (.aload_n 0, 1) := by decide +kernel
theorem dX8_cut_40 : decode cX8_cut 40 = .ok (.iconst 1, 1) := by decide +kernel
theorem dX8_cut_41 : decode cX8_cut 41 = .ok (.putfield 41, 3) := by decide +kernel
theorem dX8_cut_44 : decode cX8_cut 44 = .ok (.aload_n 0, 1) := by decide +kernel
theorem dX8_cut_45 : decode cX8_cut 45 = .ok (.getfield 28, 3) := by decide +kernel
theorem dX8_cut_48 : decode cX8_cut 48 = .ok (.getfield 93, 3) := by decide +kernel
theorem dX8_cut_51 : decode cX8_cut 51 = .ok (.iload_n 1, 1) := by decide +kernel
theorem dX8_cut_52 : decode cX8_cut 52 = .ok (.iload_n 2, 1) := by decide +kernel
theorem dX8_cut_53 : decode cX8_cut 53 = .ok (.invokevirtual 115, 3) := by decide +kernel
theorem dX8_cut_56 : decode cX8_cut 56 = .ok (.ireturn, 1) := by decide +kernel
theorem dX8_answer_0 : decode cX8_answer 0 = .ok (.iload_n 1, 1) := by decide +kernel
theorem dX8_answer_1 : decode cX8_answer 1 = .ok (.iconst 2, 1) := by decide +kernel
theorem dX8_answer_2 : decode cX8_answer 2 = .ok (.invokestatic 53, 3) := by decide +kernel
theorem dX8_answer_5 : decode cX8_answer 5 = .ok (.ifCond .eq 27, 3) := by decide +kernel
theorem dX8_answer_8 : decode cX8_answer 8 = .ok (.iload_n 2, 1) := by decide +kernel
theorem dX8_answer_9 : decode cX8_answer 9 = .ok (.aload_n 0, 1) := by decide +kernel
theorem dX8_answer_10 : decode cX8_answer 10 = .ok (.getfield 28, 3) := by decide +kernel
theorem dX8_answer_13 : decode cX8_answer 13 = .ok (.getfield 72, 3) := by decide +kernel
theorem dX8_answer_16 : decode cX8_answer 16 = .ok (.invokestatic 53, 3) := by decide +kernel
theorem dX8_answer_19 : decode cX8_answer 19 = .ok (.ifCond .eq 13, 3) := by decide +kernel
theorem dX8_answer_22 : decode cX8_answer 22 = .ok (.iload_n 3, 1) := by decide +kernel
theorem dX8_answer_23 : decode cX8_answer 23 = .ok (.sipush 300, 3) := by decide +kernel
theorem dX8_answer_26 : decode cX8_answer 26 = .ok (.invokestatic 53, 3) := by decide +kernel
theorem dX8_answer_29 : decode cX8_answer 29 = .ok (.ifCond .ne 5, 3) := by decide +kernel
theorem dX8_answer_32 : decode cX8_answer 32 = .ok (.iconst (-1), 1) := by decide +kernel
theorem dX8_answer_33 : decode cX8_answer 33 = .ok (.ireturn, 1) := by decide +kernel
theorem dX8_answer_34 : decode cX8_answer 34 = .ok (.aload_n 0, 1) := by decide +kernel
theorem dX8_answer_35 : decode cX8_answer 35 = .ok (.invokevirtual 118, 3) := by decide +kernel
theorem dX8_answer_38 : decode cX8_answer 38 = .ok (.aload_n 0, 1) := by decide +kernel
theorem dX8_answer_39 : decode cX8_answer 39 = .ok (.getfield 37, 3) := by decide +kernel
theorem dX8_answer_42 : decode cX8_answer 42 = .ok (.iload_n 1, 1) := by decide +kernel
theorem dX8_answer_43 : decode cX8_answer 43 = .ok (.iload_n 2, 1) := by decide +kernel
theorem dX8_answer_44 : decode cX8_answer 44 = .ok (.iload_n 3, 1) := by decide +kernel
theorem dX8_answer_45 : decode cX8_answer 45 = .ok (.invokevirtual 121, 3) := by decide +kernel
theorem dX8_answer_48 : decode cX8_answer 48 = .ok (.ireturn, 1) := by decide +kernel
theorem dX8_state_0 : decode cX8_state 0 = .ok (.iload_n 1, 1) := by decide +kernel
theorem dX8_state_1 : decode cX8_state 1 = .ok (.aload_n 0, 1) := by decide +kernel
theorem dX8_state_2 : decode cX8_state 2 = .ok (.getfield 28, 3) := by decide +kernel
theorem dX8_state_5 : decode cX8_state 5 = .ok (.getfield 72, 3) := by decide +kernel
theorem dX8_state_8 : decode cX8_state 8 = .ok (.invokestatic 53, 3) := by decide +kernel
theorem dX8_state_11 : decode cX8_state 11 = .ok (.ifCond .eq 22, 3) := by decide +kernel
theorem dX8_state_14 : decode cX8_state 14 = .ok (.iload_n 2, 1) := by decide +kernel
theorem dX8_state_15 : decode cX8_state 15 = .ok (.sipush 300, 3) := by decide +kernel
theorem dX8_state_18 : decode cX8_state 18 = .ok (.invokestatic 53, 3) := by decide +kernel
theorem dX8_state_21 : decode cX8_state 21 = .ok (.ifCond .eq 12, 3) := by decide +kernel
theorem dX8_state_24 : decode cX8_state 24 = .ok (.iload_n 3, 1) := by decide +kernel
theorem dX8_state_25 : decode cX8_state 25 = .ok (.bipush 10, 2) := by decide +kernel
theorem dX8_state_27 : decode cX8_state 27 = .ok (.invokestatic 53, 3) := by decide +kernel
theorem dX8_state_30 : decode cX8_state 30 = .ok (.ifCond .ne 6, 3) := by decide +kernel
theorem dX8_state_33 : decode cX8_state 33 = .ok (.ldc 124, 2) := by decide +kernel
theorem dX8_state_35 : decode cX8_state 35 = .ok (.ireturn, 1) := by decide +kernel
theorem dX8_state_36 : decode cX8_state 36 = .ok (.aload_n 0, 1) := by decide +kernel
theorem dX8_state_37 : decode cX8_state 37 = .ok (.invokevirtual 118, 3) := by decide +kernel
theorem dX8_state_40 : decode cX8_state 40 = .ok (.aload_n 0, 1) := by decide +kernel
theorem dX8_state_41 : decode cX8_state 41 = .ok (.getfield 37, 3) := by decide +kernel
theorem dX8_state_44 : decode cX8_state 44 = .ok (.iload_n 1, 1) := by decide +kernel
theorem dX8_state_45 : decode cX8_state 45 = .ok (.iload_n 2, 1) := by decide +kernel
theorem dX8_state_46 : decode cX8_state 46 = .ok (.iload_n 3, 1) := by decide +kernel
theorem dX8_state_47 : decode cX8_state 47 = .ok (.invokevirtual 125, 3) := by decide +kernel
theorem dX8_state_50 : decode cX8_state 50 = .ok (.ireturn, 1) := by decide +kernel
theorem dX8_sends_0 : decode cX8_sends 0 = .ok (.iload_n 1, 1) := by decide +kernel
theorem dX8_sends_1 : decode cX8_sends 1 = .ok (.sipush 300, 3) := by decide +kernel
theorem dX8_sends_4 : decode cX8_sends 4 = .ok (.invokestatic 53, 3) := by decide +kernel
theorem dX8_sends_7 : decode cX8_sends 7 = .ok (.ifCond .ne 5, 3) := by decide +kernel
theorem dX8_sends_10 : decode cX8_sends 10 = .ok (.iconst (-1), 1) := by decide +kernel
theorem dX8_sends_11 : decode cX8_sends 11 = .ok (.ireturn, 1) := by decide +kernel
theorem dX8_sends_12 : decode cX8_sends 12 = .ok (.aload_n 0, 1) := by decide +kernel
theorem dX8_sends_13 : decode cX8_sends 13 = .ok (.invokevirtual 118, 3) := by decide +kernel
theorem dX8_sends_16 : decode cX8_sends 16 = .ok (.aload_n 0, 1) := by decide +kernel
theorem dX8_sends_17 : decode cX8_sends 17 = .ok (.getfield 37, 3) := by decide +kernel
theorem dX8_sends_20 : decode cX8_sends 20 = .ok (.getfield 128, 3) := by decide +kernel
theorem dX8_sends_23 : decode cX8_sends 23 = .ok (.iload_n 1, 1) := by decide +kernel
theorem dX8_sends_24 : decode cX8_sends 24 = .ok (.iaload, 1) := by decide +kernel
theorem dX8_sends_25 : decode cX8_sends 25 = .ok (.ireturn, 1) := by decide +kernel
theorem dX8_sent_0 : decode cX8_sent 0 = .ok (.aload_n 0, 1) := by decide +kernel
theorem dX8_sent_1 : decode cX8_sent 1 = .ok (.getfield 28, 3) := by decide +kernel
theorem dX8_sent_4 : decode cX8_sent 4 = .ok (.iload_n 1, 1) := by decide +kernel
theorem dX8_sent_5 : decode cX8_sent 5 = .ok (.iload_n 2, 1) := by decide +kernel
theorem dX8_sent_6 : decode cX8_sent 6 = .ok (.invokevirtual 106, 3) := by decide +kernel
theorem dX8_sent_9 : decode cX8_sent 9 = .ok (.ifCond .ne 5, 3) := by decide +kernel
theorem dX8_sent_12 : decode cX8_sent 12 = .ok (.iconst (-1), 1) := by decide +kernel
theorem dX8_sent_13 : decode cX8_sent 13 = .ok (.ireturn, 1) := by decide +kernel
theorem dX8_sent_14 : decode cX8_sent 14 = .ok (.aload_n 0, 1) := by decide +kernel
theorem dX8_sent_15 : decode cX8_sent 15 = .ok (.invokevirtual 118, 3) := by decide +kernel
theorem dX8_sent_18 : decode cX8_sent 18 = .ok (.aload_n 0, 1) := by decide +kernel
theorem dX8_sent_19 : decode cX8_sent 19 = .ok (.getfield 37, 3) := by decide +kernel
theorem dX8_sent_22 : decode cX8_sent 22 = .ok (.getfield 131, 3) := by decide +kernel
theorem dX8_sent_25 : decode cX8_sent 25 = .ok (.iload_n 1, 1) := by decide +kernel
theorem dX8_sent_26 : decode cX8_sent 26 = .ok (.bipush 12, 2) := by decide +kernel
theorem dX8_sent_28 : decode cX8_sent 28 = .ok (.imul, 1) := by decide +kernel
theorem dX8_sent_29 : decode cX8_sent 29 = .ok (.iload_n 2, 1) := by decide +kernel
theorem dX8_sent_30 : decode cX8_sent 30 = .ok (.iadd, 1) := by decide +kernel
theorem dX8_sent_31 : decode cX8_sent 31 = .ok (.iaload, 1) := by decide +kernel
theorem dX8_sent_32 : decode cX8_sent 32 = .ok (.ireturn, 1) := by decide +kernel
theorem dX8_ends_0 : decode cX8_ends 0 = .ok (.aload_n 0, 1) := by decide +kernel
theorem dX8_ends_1 : decode cX8_ends 1 = .ok (.invokevirtual 118, 3) := by decide +kernel
theorem dX8_ends_4 : decode cX8_ends 4 = .ok (.aload_n 0, 1) := by decide +kernel
theorem dX8_ends_5 : decode cX8_ends 5 = .ok (.getfield 37, 3) := by decide +kernel
theorem dX8_ends_8 : decode cX8_ends 8 = .ok (.invokevirtual 134, 3) := by decide +kernel
theorem dX8_ends_11 : decode cX8_ends 11 = .ok (.invokestatic 137, 3) := by decide +kernel
theorem dX8_ends_14 : decode cX8_ends 14 = .ok (.ireturn, 1) := by decide +kernel
theorem dX8_up_0 : decode cX8_up 0 = .ok (.aload_n 0, 1) := by decide +kernel
theorem dX8_up_1 : decode cX8_up 1 = .ok (.invokevirtual 118, 3) := by decide +kernel
theorem dX8_up_4 : decode cX8_up 4 = .ok (.aload_n 0, 1) := by decide +kernel
theorem dX8_up_5 : decode cX8_up 5 = .ok (.getfield 37, 3) := by decide +kernel
theorem dX8_up_8 : decode cX8_up 8 = .ok (.invokevirtual 141, 3) := by decide +kernel
theorem dX8_up_11 : decode cX8_up 11 = .ok (.ireturn, 1) := by decide +kernel
theorem dX8_log_0 : decode cX8_log 0 = .ok (.iload_n 1, 1) := by decide +kernel
theorem dX8_log_1 : decode cX8_log 1 = .ok (.aload_n 0, 1) := by decide +kernel
theorem dX8_log_2 : decode cX8_log 2 = .ok (.getfield 28, 3) := by decide +kernel
theorem dX8_log_5 : decode cX8_log 5 = .ok (.getfield 72, 3) := by decide +kernel
theorem dX8_log_8 : decode cX8_log 8 = .ok (.invokestatic 53, 3) := by decide +kernel
theorem dX8_log_11 : decode cX8_log 11 = .ok (.ifCond .eq 7, 3) := by decide +kernel
theorem dX8_log_14 : decode cX8_log 14 = .ok (.iload_n 2, 1) := by decide +kernel
theorem dX8_log_15 : decode cX8_log 15 = .ok (.ifCond .ge 5, 3) := by decide +kernel
theorem dX8_log_18 : decode cX8_log 18 = .ok (.iconst (-1), 1) := by decide +kernel
theorem dX8_log_19 : decode cX8_log 19 = .ok (.ireturn, 1) := by decide +kernel
theorem dX8_log_20 : decode cX8_log 20 = .ok (.aload_n 0, 1) := by decide +kernel
theorem dX8_log_21 : decode cX8_log 21 = .ok (.invokevirtual 118, 3) := by decide +kernel
theorem dX8_log_24 : decode cX8_log 24 = .ok (.aload_n 0, 1) := by decide +kernel
theorem dX8_log_25 : decode cX8_log 25 = .ok (.getfield 37, 3) := by decide +kernel
theorem dX8_log_28 : decode cX8_log 28 = .ok (.iload_n 1, 1) := by decide +kernel
theorem dX8_log_29 : decode cX8_log 29 = .ok (.iload_n 2, 1) := by decide +kernel
theorem dX8_log_30 : decode cX8_log 30 = .ok (.invokevirtual 144, 3) := by decide +kernel
theorem dX8_log_33 : decode cX8_log 33 = .ok (.ireturn, 1) := by decide +kernel
theorem dX8_plan_0 : decode cX8_plan 0 = .ok (.iload_n 1, 1) := by decide +kernel
theorem dX8_plan_1 : decode cX8_plan 1 = .ok (.iconst 1, 1) := by decide +kernel
theorem dX8_plan_2 : decode cX8_plan 2 = .ok (.if_icmp .lt 9, 3) := by decide +kernel
theorem dX8_plan_5 : decode cX8_plan 5 = .ok (.iload_n 1, 1) := by decide +kernel
theorem dX8_plan_6 : decode cX8_plan 6 = .ok (.bipush 20, 2) := by decide +kernel
theorem dX8_plan_8 : decode cX8_plan 8 = .ok (.if_icmp .le 6, 3) := by decide +kernel
theorem dX8_plan_11 : decode cX8_plan 11 = .ok (.bipush (-2), 2) := by decide +kernel
theorem dX8_plan_13 : decode cX8_plan 13 = .ok (.ireturn, 1) := by decide +kernel
theorem dX8_plan_14 : decode cX8_plan 14 = .ok (.sipush 256, 3) := by decide +kernel
theorem dX8_plan_17 : decode cX8_plan 17 = .ok (.istore_n 2, 1) := by decide +kernel
theorem dX8_plan_18 : decode cX8_plan 18 = .ok (.iconst 0, 1) := by decide +kernel
theorem dX8_plan_19 : decode cX8_plan 19 = .ok (.istore_n 3, 1) := by decide +kernel
theorem dX8_plan_20 : decode cX8_plan 20 = .ok (.ldc 149, 2) := by decide +kernel
theorem dX8_plan_22 : decode cX8_plan 22 = .ok (.istore 4, 2) := by decide +kernel
theorem dX8_plan_24 : decode cX8_plan 24 = .ok (.sipush 300, 3) := by decide +kernel
theorem dX8_plan_27 : decode cX8_plan 27 = .ok (.istore 5, 2) := by decide +kernel
theorem dX8_plan_29 : decode cX8_plan 29 = .ok (.iconst 0, 1) := by decide +kernel
theorem dX8_plan_30 : decode cX8_plan 30 = .ok (.istore 6, 2) := by decide +kernel
theorem dX8_plan_32 : decode cX8_plan 32 = .ok (.iload 6, 2) := by decide +kernel
theorem dX8_plan_34 : decode cX8_plan 34 = .ok (.iload_n 2, 1) := by decide +kernel
theorem dX8_plan_35 : decode cX8_plan 35 = .ok (.if_icmp .ge 62, 3) := by decide +kernel
theorem dX8_plan_38 : decode cX8_plan 38 = .ok (.aload_n 0, 1) := by decide +kernel
theorem dX8_plan_39 : decode cX8_plan 39 = .ok (.getfield 28, 3) := by decide +kernel
theorem dX8_plan_42 : decode cX8_plan 42 = .ok (.iload 6, 2) := by decide +kernel
theorem dX8_plan_44 : decode cX8_plan 44 = .ok (.iload_n 1, 1) := by decide +kernel
theorem dX8_plan_45 : decode cX8_plan 45 = .ok (.invokevirtual 150, 3) := by decide +kernel
theorem dX8_plan_48 : decode cX8_plan 48 = .ok (.ifCond .eq 43, 3) := by decide +kernel
theorem dX8_plan_51 : decode cX8_plan 51 = .ok (.aload_n 0, 1) := by decide +kernel
theorem dX8_plan_52 : decode cX8_plan 52 = .ok (.getfield 37, 3) := by decide +kernel
theorem dX8_plan_55 : decode cX8_plan 55 = .ok (.iconst 0, 1) := by decide +kernel
theorem dX8_plan_56 : decode cX8_plan 56 = .ok (.invokevirtual 153, 3) := by decide +kernel
theorem dX8_plan_59 : decode cX8_plan 59 = .ok (.aload_n 0, 1) := by decide +kernel
theorem dX8_plan_60 : decode cX8_plan 60 = .ok (.getfield 37, 3) := by decide +kernel
theorem dX8_plan_63 : decode cX8_plan 63 = .ok (.invokevirtual 157, 3) := by decide +kernel
theorem dX8_plan_66 : decode cX8_plan 66 = .ok (.istore 7, 2) := by decide +kernel
theorem dX8_plan_68 : decode cX8_plan 68 = .ok (.iload 7, 2) := by decide +kernel
theorem dX8_plan_70 : decode cX8_plan 70 = .ok (.iload 4, 2) := by decide +kernel
theorem dX8_plan_72 : decode cX8_plan 72 = .ok (.if_icmp .ge 19, 3) := by decide +kernel
theorem dX8_plan_75 : decode cX8_plan 75 = .ok (.iload 6, 2) := by decide +kernel
theorem dX8_plan_77 : decode cX8_plan 77 = .ok (.istore_n 3, 1) := by decide +kernel
theorem dX8_plan_78 : decode cX8_plan 78 = .ok (.iload 7, 2) := by decide +kernel
theorem dX8_plan_80 : decode cX8_plan 80 = .ok (.istore 4, 2) := by decide +kernel
theorem dX8_plan_82 : decode cX8_plan 82 = .ok (.aload_n 0, 1) := by decide +kernel
theorem dX8_plan_83 : decode cX8_plan 83 = .ok (.getfield 37, 3) := by decide +kernel
theorem dX8_plan_86 : decode cX8_plan 86 = .ok (.invokevirtual 134, 3) := by decide +kernel
theorem dX8_plan_89 : decode cX8_plan 89 = .ok (.istore 5, 2) := by decide +kernel
theorem dX8_plan_91 : decode cX8_plan 91 = .ok (.iinc 6 1, 3) := by decide +kernel
theorem dX8_plan_94 : decode cX8_plan 94 = .ok (.goto (-62), 3) := by decide +kernel
theorem dX8_plan_97 : decode cX8_plan 97 = .ok (.aload_n 0, 1) := by decide +kernel
theorem dX8_plan_98 : decode cX8_plan 98 = .ok (.getfield 28, 3) := by decide +kernel
theorem dX8_plan_101 : decode cX8_plan 101 = .ok (.iload_n 3, 1) := by decide +kernel
theorem dX8_plan_102 : decode cX8_plan 102 = .ok (.iload_n 1, 1) := by decide +kernel
theorem dX8_plan_103 : decode cX8_plan 103 = .ok (.invokevirtual 150, 3) := by decide +kernel
theorem dX8_plan_106 : decode cX8_plan 106 = .ok (.pop, 1) := by decide +kernel
theorem dX8_plan_107 : decode cX8_plan 107 = .ok (.aload_n 0, 1) := by decide +kernel
theorem dX8_plan_108 : decode cX8_plan 108 = .ok (.iconst 1, 1) := by decide +kernel
theorem dX8_plan_109 : decode cX8_plan 109 = .ok (.putfield 41, 3) := by decide +kernel
theorem dX8_plan_112 : decode cX8_plan 112 = .ok (.iload 5, 2) := by decide +kernel
theorem dX8_plan_114 : decode cX8_plan 114 = .ok (.invokestatic 137, 3) := by decide +kernel
theorem dX8_plan_117 : decode cX8_plan 117 = .ok (.ireturn, 1) := by decide +kernel
theorem dX8_wakes_0 : decode cX8_wakes 0 = .ok (.iload_n 1, 1) := by decide +kernel
theorem dX8_wakes_1 : decode cX8_wakes 1 = .ok (.iconst 4, 1) := by decide +kernel
theorem dX8_wakes_2 : decode cX8_wakes 2 = .ok (.invokestatic 53, 3) := by decide +kernel
theorem dX8_wakes_5 : decode cX8_wakes 5 = .ok (.ifCond .eq 15, 3) := by decide +kernel
theorem dX8_wakes_8 : decode cX8_wakes 8 = .ok (.aload_n 0, 1) := by decide +kernel
theorem dX8_wakes_9 : decode cX8_wakes 9 = .ok (.getfield 28, 3) := by decide +kernel
theorem dX8_wakes_12 : decode cX8_wakes 12 = .ok (.getfield 89, 3) := by decide +kernel
theorem dX8_wakes_15 : decode cX8_wakes 15 = .ok (.iload_n 1, 1) := by decide +kernel
theorem dX8_wakes_16 : decode cX8_wakes 16 = .ok (.iaload, 1) := by decide +kernel
theorem dX8_wakes_17 : decode cX8_wakes 17 = .ok (.goto 4, 3) := by decide +kernel
theorem dX8_wakes_20 : decode cX8_wakes 20 = .ok (.iconst (-1), 1) := by decide +kernel
theorem dX8_wakes_21 : decode cX8_wakes 21 = .ok (.ireturn, 1) := by decide +kernel
theorem dX8_count_0 : decode cX8_count 0 = .ok (.iload_n 1, 1) := by decide +kernel
theorem dX8_count_1 : decode cX8_count 1 = .ok (.tableswitch 128 0 7 #[47, 55, 63, 76, 89, 100, 108, 120], 47) := by decide +kernel
theorem dX8_count_48 : decode cX8_count 48 = .ok (.aload_n 0, 1) := by decide +kernel
theorem dX8_count_49 : decode cX8_count 49 = .ok (.getfield 28, 3) := by decide +kernel
theorem dX8_count_52 : decode cX8_count 52 = .ok (.getfield 72, 3) := by decide +kernel
theorem dX8_count_55 : decode cX8_count 55 = .ok (.ireturn, 1) := by decide +kernel
theorem dX8_count_56 : decode cX8_count 56 = .ok (.aload_n 0, 1) := by decide +kernel
theorem dX8_count_57 : decode cX8_count 57 = .ok (.getfield 28, 3) := by decide +kernel
theorem dX8_count_60 : decode cX8_count 60 = .ok (.getfield 79, 3) := by decide +kernel
theorem dX8_count_63 : decode cX8_count 63 = .ok (.ireturn, 1) := by decide +kernel
theorem dX8_count_64 : decode cX8_count 64 = .ok (.aload_n 0, 1) := by decide +kernel
theorem dX8_count_65 : decode cX8_count 65 = .ok (.getfield 28, 3) := by decide +kernel
theorem dX8_count_68 : decode cX8_count 68 = .ok (.getfield 61, 3) := by decide +kernel
theorem dX8_count_71 : decode cX8_count 71 = .ok (.iconst 0, 1) := by decide +kernel
theorem dX8_count_72 : decode cX8_count 72 = .ok (.aaload, 1) := by decide +kernel
theorem dX8_count_73 : decode cX8_count 73 = .ok (.getfield 160, 3) := by decide +kernel
theorem dX8_count_76 : decode cX8_count 76 = .ok (.ireturn, 1) := by decide +kernel
theorem dX8_count_77 : decode cX8_count 77 = .ok (.aload_n 0, 1) := by decide +kernel
theorem dX8_count_78 : decode cX8_count 78 = .ok (.getfield 28, 3) := by decide +kernel
theorem dX8_count_81 : decode cX8_count 81 = .ok (.getfield 61, 3) := by decide +kernel
theorem dX8_count_84 : decode cX8_count 84 = .ok (.iconst 1, 1) := by decide +kernel
theorem dX8_count_85 : decode cX8_count 85 = .ok (.aaload, 1) := by decide +kernel
theorem dX8_count_86 : decode cX8_count 86 = .ok (.getfield 160, 3) := by decide +kernel
theorem dX8_count_89 : decode cX8_count 89 = .ok (.ireturn, 1) := by decide +kernel
theorem dX8_count_90 : decode cX8_count 90 = .ok (.aload_n 0, 1) := by decide +kernel
theorem dX8_count_91 : decode cX8_count 91 = .ok (.getfield 28, 3) := by decide +kernel
theorem dX8_count_94 : decode cX8_count 94 = .ok (.getfield 93, 3) := by decide +kernel
theorem dX8_count_97 : decode cX8_count 97 = .ok (.getfield 165, 3) := by decide +kernel
theorem dX8_count_100 : decode cX8_count 100 = .ok (.ireturn, 1) := by decide +kernel
theorem dX8_count_101 : decode cX8_count 101 = .ok (.aload_n 0, 1) := by decide +kernel
theorem dX8_count_102 : decode cX8_count 102 = .ok (.getfield 28, 3) := by decide +kernel
theorem dX8_count_105 : decode cX8_count 105 = .ok (.getfield 86, 3) := by decide +kernel
theorem dX8_count_108 : decode cX8_count 108 = .ok (.ireturn, 1) := by decide +kernel
theorem dX8_count_109 : decode cX8_count 109 = .ok (.aload_n 0, 1) := by decide +kernel
theorem dX8_count_110 : decode cX8_count 110 = .ok (.invokevirtual 118, 3) := by decide +kernel
theorem dX8_count_113 : decode cX8_count 113 = .ok (.aload_n 0, 1) := by decide +kernel
theorem dX8_count_114 : decode cX8_count 114 = .ok (.getfield 37, 3) := by decide +kernel
theorem dX8_count_117 : decode cX8_count 117 = .ok (.getfield 168, 3) := by decide +kernel
theorem dX8_count_120 : decode cX8_count 120 = .ok (.ireturn, 1) := by decide +kernel
theorem dX8_count_121 : decode cX8_count 121 = .ok (.aload_n 0, 1) := by decide +kernel
theorem dX8_count_122 : decode cX8_count 122 = .ok (.getfield 13, 3) := by decide +kernel
theorem dX8_count_125 : decode cX8_count 125 = .ok (.getfield 45, 3) := by decide +kernel
theorem dX8_count_128 : decode cX8_count 128 = .ok (.ireturn, 1) := by decide +kernel
theorem dX8_count_129 : decode cX8_count 129 = .ok (.iconst (-1), 1) := by decide +kernel
theorem dX8_count_130 : decode cX8_count 130 = .ok (.ireturn, 1) := by decide +kernel
theorem dX8_freshen_0 : decode cX8_freshen 0 = .ok (.aload_n 0, 1) := by decide +kernel
theorem dX8_freshen_1 : decode cX8_freshen 1 = .ok (.getfield 41, 3) := by decide +kernel
theorem dX8_freshen_4 : decode cX8_freshen 4 = .ok (.ifCond .eq 16, 3) := by decide +kernel
theorem dX8_freshen_7 : decode cX8_freshen 7 = .ok (.aload_n 0, 1) := by decide +kernel
theorem dX8_freshen_8 : decode cX8_freshen 8 = .ok (.getfield 37, 3) := by decide +kernel
theorem dX8_freshen_11 : decode cX8_freshen 11 = .ok (.iconst 1, 1) := by decide +kernel
theorem dX8_freshen_12 : decode cX8_freshen 12 = .ok (.invokevirtual 153, 3) := by decide +kernel
theorem dX8_freshen_15 : decode cX8_freshen 15 = .ok (.aload_n 0, 1) := by decide +kernel
theorem dX8_freshen_16 : decode cX8_freshen 16 = .ok (.iconst 0, 1) := by decide +kernel
theorem dX8_freshen_17 : decode cX8_freshen 17 = .ok (.putfield 41, 3) := by decide +kernel
theorem dX8_freshen_20 : decode cX8_freshen 20 = .ok (.return_, 1) := by decide +kernel
theorem dX8_endOrNone_0 : decode cX8_endOrNone 0 = .ok (.iload_n 0, 1) := by decide +kernel
theorem dX8_endOrNone_1 : decode cX8_endOrNone 1 = .ok (.sipush 300, 3) := by decide +kernel
theorem dX8_endOrNone_4 : decode cX8_endOrNone 4 = .ok (.if_icmp .ge 7, 3) := by decide +kernel
theorem dX8_endOrNone_7 : decode cX8_endOrNone 7 = .ok (.iload_n 0, 1) := by decide +kernel
theorem dX8_endOrNone_8 : decode cX8_endOrNone 8 = .ok (.goto 4, 3) := by decide +kernel
theorem dX8_endOrNone_11 : decode cX8_endOrNone 11 = .ok (.iconst (-1), 1) := by decide +kernel
theorem dX8_endOrNone_12 : decode cX8_endOrNone 12 = .ok (.ireturn, 1) := by decide +kernel
theorem dX8_isBelow_0 : decode cX8_isBelow 0 = .ok (.iload_n 0, 1) := by decide +kernel
theorem dX8_isBelow_1 : decode cX8_isBelow 1 = .ok (.ifCond .lt 12, 3) := by decide +kernel
theorem dX8_isBelow_4 : decode cX8_isBelow 4 = .ok (.iload_n 0, 1) := by decide +kernel
theorem dX8_isBelow_5 : decode cX8_isBelow 5 = .ok (.iload_n 1, 1) := by decide +kernel
theorem dX8_isBelow_6 : decode cX8_isBelow 6 = .ok (.if_icmp .ge 7, 3) := by decide +kernel
theorem dX8_isBelow_9 : decode cX8_isBelow 9 = .ok (.iconst 1, 1) := by decide +kernel
theorem dX8_isBelow_10 : decode cX8_isBelow 10 = .ok (.goto 4, 3) := by decide +kernel
theorem dX8_isBelow_13 : decode cX8_isBelow 13 = .ok (.iconst 0, 1) := by decide +kernel
theorem dX8_isBelow_14 : decode cX8_isBelow 14 = .ok (.ireturn, 1) := by decide +kernel
theorem dJ6_bitCount_0f7a4_0 : decode cJ6_bitCount_0f7a4 0 = .ok (.iload_n 0, 1) := by decide +kernel
theorem dJ6_bitCount_0f7a4_1 : decode cJ6_bitCount_0f7a4 1 = .ok (.iload_n 0, 1) := by decide +kernel
theorem dJ6_bitCount_0f7a4_2 : decode cJ6_bitCount_0f7a4 2 = .ok (.iconst 1, 1) := by decide +kernel
theorem dJ6_bitCount_0f7a4_3 : decode cJ6_bitCount_0f7a4 3 = .ok (.iushr, 1) := by decide +kernel
theorem dJ6_bitCount_0f7a4_4 : decode cJ6_bitCount_0f7a4 4 = .ok (.ldc_w 265, 3) := by decide +kernel
theorem dJ6_bitCount_0f7a4_7 : decode cJ6_bitCount_0f7a4 7 = .ok (.iand, 1) := by decide +kernel
theorem dJ6_bitCount_0f7a4_8 : decode cJ6_bitCount_0f7a4 8 = .ok (.isub, 1) := by decide +kernel
theorem dJ6_bitCount_0f7a4_9 : decode cJ6_bitCount_0f7a4 9 = .ok (.istore_n 0, 1) := by decide +kernel
theorem dJ6_bitCount_0f7a4_10 : decode cJ6_bitCount_0f7a4 10 = .ok (.iload_n 0, 1) := by decide +kernel
theorem dJ6_bitCount_0f7a4_11 : decode cJ6_bitCount_0f7a4 11 = .ok (.ldc_w 266, 3) := by decide +kernel
theorem dJ6_bitCount_0f7a4_14 : decode cJ6_bitCount_0f7a4 14 = .ok (.iand, 1) := by decide +kernel
theorem dJ6_bitCount_0f7a4_15 : decode cJ6_bitCount_0f7a4 15 = .ok (.iload_n 0, 1) := by decide +kernel
theorem dJ6_bitCount_0f7a4_16 : decode cJ6_bitCount_0f7a4 16 = .ok (.iconst 2, 1) := by decide +kernel
theorem dJ6_bitCount_0f7a4_17 : decode cJ6_bitCount_0f7a4 17 = .ok (.iushr, 1) := by decide +kernel
theorem dJ6_bitCount_0f7a4_18 : decode cJ6_bitCount_0f7a4 18 = .ok (.ldc_w 266, 3) := by decide +kernel
theorem dJ6_bitCount_0f7a4_21 : decode cJ6_bitCount_0f7a4 21 = .ok (.iand, 1) := by decide +kernel
theorem dJ6_bitCount_0f7a4_22 : decode cJ6_bitCount_0f7a4 22 = .ok (.iadd, 1) := by decide +kernel
theorem dJ6_bitCount_0f7a4_23 : decode cJ6_bitCount_0f7a4 23 = .ok (.istore_n 0, 1) := by decide +kernel
theorem dJ6_bitCount_0f7a4_24 : decode cJ6_bitCount_0f7a4 24 = .ok (.iload_n 0, 1) := by decide +kernel
theorem dJ6_bitCount_0f7a4_25 : decode cJ6_bitCount_0f7a4 25 = .ok (.iload_n 0, 1) := by decide +kernel
theorem dJ6_bitCount_0f7a4_26 : decode cJ6_bitCount_0f7a4 26 = .ok (.iconst 4, 1) := by decide +kernel
theorem dJ6_bitCount_0f7a4_27 : decode cJ6_bitCount_0f7a4 27 = .ok (.iushr, 1) := by decide +kernel
theorem dJ6_bitCount_0f7a4_28 : decode cJ6_bitCount_0f7a4 28 = .ok (.iadd, 1) := by decide +kernel
theorem dJ6_bitCount_0f7a4_29 : decode cJ6_bitCount_0f7a4 29 = .ok (.ldc_w 267, 3) := by decide +kernel
theorem dJ6_bitCount_0f7a4_32 : decode cJ6_bitCount_0f7a4 32 = .ok (.iand, 1) := by decide +kernel
theorem dJ6_bitCount_0f7a4_33 : decode cJ6_bitCount_0f7a4 33 = .ok (.istore_n 0, 1) := by decide +kernel
theorem dJ6_bitCount_0f7a4_34 : decode cJ6_bitCount_0f7a4 34 = .ok (.iload_n 0, 1) := by decide +kernel
theorem dJ6_bitCount_0f7a4_35 : decode cJ6_bitCount_0f7a4 35 = .ok (.iload_n 0, 1) := by decide +kernel
theorem dJ6_bitCount_0f7a4_36 : decode cJ6_bitCount_0f7a4 36 = .ok (.bipush 8, 2) := by decide +kernel
theorem dJ6_bitCount_0f7a4_38 : decode cJ6_bitCount_0f7a4 38 = .ok (.iushr, 1) := by decide +kernel
theorem dJ6_bitCount_0f7a4_39 : decode cJ6_bitCount_0f7a4 39 = .ok (.iadd, 1) := by decide +kernel
theorem dJ6_bitCount_0f7a4_40 : decode cJ6_bitCount_0f7a4 40 = .ok (.istore_n 0, 1) := by decide +kernel
theorem dJ6_bitCount_0f7a4_41 : decode cJ6_bitCount_0f7a4 41 = .ok (.iload_n 0, 1) := by decide +kernel
theorem dJ6_bitCount_0f7a4_42 : decode cJ6_bitCount_0f7a4 42 = .ok (.iload_n 0, 1) := by decide +kernel
theorem dJ6_bitCount_0f7a4_43 : decode cJ6_bitCount_0f7a4 43 = .ok (.bipush 16, 2) := by decide +kernel
theorem dJ6_bitCount_0f7a4_45 : decode cJ6_bitCount_0f7a4 45 = .ok (.iushr, 1) := by decide +kernel
theorem dJ6_bitCount_0f7a4_46 : decode cJ6_bitCount_0f7a4 46 = .ok (.iadd, 1) := by decide +kernel
theorem dJ6_bitCount_0f7a4_47 : decode cJ6_bitCount_0f7a4 47 = .ok (.istore_n 0, 1) := by decide +kernel
theorem dJ6_bitCount_0f7a4_48 : decode cJ6_bitCount_0f7a4 48 = .ok (.iload_n 0, 1) := by decide +kernel
theorem dJ6_bitCount_0f7a4_49 : decode cJ6_bitCount_0f7a4 49 = .ok (.bipush 63, 2) := by decide +kernel
theorem dJ6_bitCount_0f7a4_51 : decode cJ6_bitCount_0f7a4 51 = .ok (.iand, 1) := by decide +kernel
theorem dJ6_bitCount_0f7a4_52 : decode cJ6_bitCount_0f7a4 52 = .ok (.ireturn, 1) := by decide +kernel
theorem dJ9_max_7cf53_0 : decode cJ9_max_7cf53 0 = .ok (.iload_n 0, 1) := by decide +kernel
theorem dJ9_max_7cf53_1 : decode cJ9_max_7cf53 1 = .ok (.iload_n 1, 1) := by decide +kernel
theorem dJ9_max_7cf53_2 : decode cJ9_max_7cf53 2 = .ok (.if_icmp .lt 7, 3) := by decide +kernel
theorem dJ9_max_7cf53_5 : decode cJ9_max_7cf53 5 = .ok (.iload_n 0, 1) := by decide +kernel
theorem dJ9_max_7cf53_6 : decode cJ9_max_7cf53 6 = .ok (.goto 4, 3) := by decide +kernel
theorem dJ9_max_7cf53_9 : decode cJ9_max_7cf53 9 = .ok (.iload_n 1, 1) := by decide +kernel
theorem dJ9_max_7cf53_10 : decode cJ9_max_7cf53 10 = .ok (.ireturn, 1) := by decide +kernel
theorem dJ7_fill_53178_0 : decode cJ7_fill_53178 0 = .ok (.iconst 0, 1) := by decide +kernel
theorem dJ7_fill_53178_1 : decode cJ7_fill_53178 1 = .ok (.istore_n 2, 1) := by decide +kernel
theorem dJ7_fill_53178_2 : decode cJ7_fill_53178 2 = .ok (.aload_n 0, 1) := by decide +kernel
theorem dJ7_fill_53178_3 : decode cJ7_fill_53178 3 = .ok (.arraylength, 1) := by decide +kernel
theorem dJ7_fill_53178_4 : decode cJ7_fill_53178 4 = .ok (.istore_n 3, 1) := by decide +kernel
theorem dJ7_fill_53178_5 : decode cJ7_fill_53178 5 = .ok (.iload_n 2, 1) := by decide +kernel
theorem dJ7_fill_53178_6 : decode cJ7_fill_53178 6 = .ok (.iload_n 3, 1) := by decide +kernel
theorem dJ7_fill_53178_7 : decode cJ7_fill_53178 7 = .ok (.if_icmp .ge 13, 3) := by decide +kernel
theorem dJ7_fill_53178_10 : decode cJ7_fill_53178 10 = .ok (.aload_n 0, 1) := by decide +kernel
theorem dJ7_fill_53178_11 : decode cJ7_fill_53178 11 = .ok (.iload_n 2, 1) := by decide +kernel
theorem dJ7_fill_53178_12 : decode cJ7_fill_53178 12 = .ok (.iload_n 1, 1) := by decide +kernel
theorem dJ7_fill_53178_13 : decode cJ7_fill_53178 13 = .ok (.iastore, 1) := by decide +kernel
theorem dJ7_fill_53178_14 : decode cJ7_fill_53178 14 = .ok (.iinc 2 1, 3) := by decide +kernel
theorem dJ7_fill_53178_17 : decode cJ7_fill_53178 17 = .ok (.goto (-12), 3) := by decide +kernel
theorem dJ7_fill_53178_20 : decode cJ7_fill_53178 20 = .ok (.return_, 1) := by decide +kernel
end
section
theorem dX9_init_0 : decode cX9_init 0 = .ok (.aload_n 0, 1) := by decide +kernel
theorem dX9_init_1 : decode cX9_init 1 = .ok (.invokespecial 7, 3) := by decide +kernel
theorem dX9_init_4 : decode cX9_init 4 = .ok (.aload_n 0, 1) := by decide +kernel
theorem dX9_init_5 : decode cX9_init 5 = .ok (.sipush 2000, 3) := by decide +kernel
theorem dX9_init_8 : decode cX9_init 8 = .ok (.newarray .byte, 2) := by decide +kernel
theorem dX9_init_10 : decode cX9_init 10 = .ok (.putfield 13, 3) := by decide +kernel
theorem dX9_init_13 : decode cX9_init 13 = .ok (.aload_n 0, 1) := by decide +kernel
theorem dX9_init_14 : decode cX9_init 14 = .ok (.sipush 2000, 3) := by decide +kernel
theorem dX9_init_17 : decode cX9_init 17 = .ok (.newarray .byte, 2) := by decide +kernel
theorem dX9_init_19 : decode cX9_init 19 = .ok (.putfield 17, 3) := by decide +kernel
theorem dX9_init_22 : decode cX9_init 22 = .ok (.aload_n 0, 1) := by decide +kernel
theorem dX9_init_23 : decode cX9_init 23 = .ok (.sipush 403, 3) := by decide +kernel
theorem dX9_init_26 : decode cX9_init 26 = .ok (.newarray .int, 2) := by decide +kernel
theorem dX9_init_28 : decode cX9_init 28 = .ok (.putfield 20, 3) := by decide +kernel
theorem dX9_init_31 : decode cX9_init 31 = .ok (.aload_n 0, 1) := by decide +kernel
theorem dX9_init_32 : decode cX9_init 32 = .ok (.sipush 403, 3) := by decide +kernel
theorem dX9_init_35 : decode cX9_init 35 = .ok (.newarray .int, 2) := by decide +kernel
theorem dX9_init_37 : decode cX9_init 37 = .ok (.putfield 24, 3) := by decide +kernel
theorem dX9_init_40 : decode cX9_init 40 = .ok (.aload_n 0, 1) := by decide +kernel
theorem dX9_init_41 : decode cX9_init 41 = .ok (.sipush 403, 3) := by decide +kernel
theorem dX9_init_44 : decode cX9_init 44 = .ok (.newarray .int, 2) := by decide +kernel
theorem dX9_init_46 : decode cX9_init 46 = .ok (.putfield 27, 3) := by decide +kernel
theorem dX9_init_49 : decode cX9_init 49 = .ok (.aload_n 0, 1) := by decide +kernel
theorem dX9_init_50 : decode cX9_init 50 = .ok (.sipush 403, 3) := by decide +kernel
theorem dX9_init_53 : decode cX9_init 53 = .ok (.newarray .long, 2) := by decide +kernel
theorem dX9_init_55 : decode cX9_init 55 = .ok (.putfield 30, 3) := by decide +kernel
theorem dX9_init_58 : decode cX9_init 58 = .ok (.aload_n 0, 1) := by decide +kernel
theorem dX9_init_59 : decode cX9_init 59 = .ok (.bipush 12, 2) := by decide +kernel
theorem dX9_init_61 : decode cX9_init 61 = .ok (.newarray .long, 2) := by decide +kernel
theorem dX9_init_63 : decode cX9_init 63 = .ok (.putfield 34, 3) := by decide +kernel
theorem dX9_init_66 : decode cX9_init 66 = .ok (.aload_n 0, 1) := by decide +kernel
theorem dX9_init_67 : decode cX9_init 67 = .ok (.iconst (-1), 1) := by decide +kernel
theorem dX9_init_68 : decode cX9_init 68 = .ok (.putfield 37, 3) := by decide +kernel
theorem dX9_init_71 : decode cX9_init 71 = .ok (.aload_n 0, 1) := by decide +kernel
theorem dX9_init_72 : decode cX9_init 72 = .ok (.iconst 2, 1) := by decide +kernel
theorem dX9_init_73 : decode cX9_init 73 = .ok (.newarray .int, 2) := by decide +kernel
theorem dX9_init_75 : decode cX9_init 75 = .ok (.putfield 40, 3) := by decide +kernel
theorem dX9_init_78 : decode cX9_init 78 = .ok (.aload_n 0, 1) := by decide +kernel
theorem dX9_init_79 : decode cX9_init 79 = .ok (.iconst 4, 1) := by decide +kernel
theorem dX9_init_80 : decode cX9_init 80 = .ok (.newarray .int, 2) := by decide +kernel
theorem dX9_init_82 : decode cX9_init 82 = .ok (.putfield 43, 3) := by decide +kernel
theorem dX9_init_85 : decode cX9_init 85 = .ok (.aload_n 0, 1) := by decide +kernel
theorem dX9_init_86 : decode cX9_init 86 = .ok (.bipush 80, 2) := by decide +kernel
theorem dX9_init_88 : decode cX9_init 88 = .ok (.newarray .int, 2) := by decide +kernel
theorem dX9_init_90 : decode cX9_init 90 = .ok (.putfield 46, 3) := by decide +kernel
theorem dX9_init_93 : decode cX9_init 93 = .ok (.aload_n 0, 1) := by decide +kernel
theorem dX9_init_94 : decode cX9_init 94 = .ok (.bipush 80, 2) := by decide +kernel
theorem dX9_init_96 : decode cX9_init 96 = .ok (.newarray .int, 2) := by decide +kernel
theorem dX9_init_98 : decode cX9_init 98 = .ok (.putfield 49, 3) := by decide +kernel
theorem dX9_init_101 : decode cX9_init 101 = .ok (.aload_n 0, 1) := by decide +kernel
theorem dX9_init_102 : decode cX9_init 102 = .ok (.bipush 80, 2) := by decide +kernel
theorem dX9_init_104 : decode cX9_init 104 = .ok (.newarray .int, 2) := by decide +kernel
theorem dX9_init_106 : decode cX9_init 106 = .ok (.putfield 52, 3) := by decide +kernel
theorem dX9_init_109 : decode cX9_init 109 = .ok (.aload_n 0, 1) := by decide +kernel
theorem dX9_init_110 : decode cX9_init 110 = .ok (.bipush 80, 2) := by decide +kernel
theorem dX9_init_112 : decode cX9_init 112 = .ok (.newarray .int, 2) := by decide +kernel
theorem dX9_init_114 : decode cX9_init 114 = .ok (.putfield 55, 3) := by decide +kernel
theorem dX9_init_117 : decode cX9_init 117 = .ok (.aload_n 0, 1) := by decide +kernel
theorem dX9_init_118 : decode cX9_init 118 = .ok (.iconst 4, 1) := by decide +kernel
theorem dX9_init_119 : decode cX9_init 119 = .ok (.newarray .int, 2) := by decide +kernel
theorem dX9_init_121 : decode cX9_init 121 = .ok (.putfield 58, 3) := by decide +kernel
theorem dX9_init_124 : decode cX9_init 124 = .ok (.aload_n 0, 1) := by decide +kernel
theorem dX9_init_125 : decode cX9_init 125 = .ok (.sipush 800, 3) := by decide +kernel
theorem dX9_init_128 : decode cX9_init 128 = .ok (.newarray .int, 2) := by decide +kernel
theorem dX9_init_130 : decode cX9_init 130 = .ok (.putfield 61, 3) := by decide +kernel
theorem dX9_init_133 : decode cX9_init 133 = .ok (.aload_n 0, 1) := by decide +kernel
theorem dX9_init_134 : decode cX9_init 134 = .ok (.sipush 800, 3) := by decide +kernel
theorem dX9_init_137 : decode cX9_init 137 = .ok (.newarray .int, 2) := by decide +kernel
theorem dX9_init_139 : decode cX9_init 139 = .ok (.putfield 64, 3) := by decide +kernel
theorem dX9_init_142 : decode cX9_init 142 = .ok (.aload_n 0, 1) := by decide +kernel
theorem dX9_init_143 : decode cX9_init 143 = .ok (.sipush 800, 3) := by decide +kernel
theorem dX9_init_146 : decode cX9_init 146 = .ok (.newarray .int, 2) := by decide +kernel
theorem dX9_init_148 : decode cX9_init 148 = .ok (.putfield 67, 3) := by decide +kernel
theorem dX9_init_151 : decode cX9_init 151 = .ok (.aload_n 0, 1) := by decide +kernel
theorem dX9_init_152 : decode cX9_init 152 = .ok (.sipush 800, 3) := by decide +kernel
theorem dX9_init_155 : decode cX9_init 155 = .ok (.newarray .int, 2) := by decide +kernel
theorem dX9_init_157 : decode cX9_init 157 = .ok (.putfield 70, 3) := by decide +kernel
theorem dX9_init_160 : decode cX9_init 160 = .ok (.aload_n 0, 1) := by decide +kernel
theorem dX9_init_161 : decode cX9_init 161 = .ok (.sipush 800, 3) := by decide +kernel
theorem dX9_init_164 : decode cX9_init 164 = .ok (.newarray .boolean, 2) := by decide +kernel
theorem dX9_init_166 : decode cX9_init 166 = .ok (.putfield 73, 3) := by decide +kernel
theorem dX9_init_169 : decode cX9_init 169 = .ok (.aload_n 0, 1) := by decide +kernel
theorem dX9_init_170 : decode cX9_init 170 = .ok (.sipush 2000, 3) := by decide +kernel
theorem dX9_init_173 : decode cX9_init 173 = .ok (.newarray .int, 2) := by decide +kernel
theorem dX9_init_175 : decode cX9_init 175 = .ok (.putfield 77, 3) := by decide +kernel
theorem dX9_init_178 : decode cX9_init 178 = .ok (.aload_n 0, 1) := by decide +kernel
theorem dX9_init_179 : decode cX9_init 179 = .ok (.sipush 2000, 3) := by decide +kernel
theorem dX9_init_182 : decode cX9_init 182 = .ok (.newarray .int, 2) := by decide +kernel
theorem dX9_init_184 : decode cX9_init 184 = .ok (.putfield 80, 3) := by decide +kernel
theorem dX9_init_187 : decode cX9_init 187 = .ok (.aload_n 0, 1) := by decide +kernel
theorem dX9_init_188 : decode cX9_init 188 = .ok (.bipush 48, 2) := by decide +kernel
theorem dX9_init_190 : decode cX9_init 190 = .ok (.newarray .int, 2) := by decide +kernel
theorem dX9_init_192 : decode cX9_init 192 = .ok (.putfield 83, 3) := by decide +kernel
theorem dX9_init_195 : decode cX9_init 195 = .ok (.aload_n 0, 1) := by decide +kernel
theorem dX9_init_196 : decode cX9_init 196 = .ok (.bipush 8, 2) := by decide +kernel
theorem dX9_init_198 : decode cX9_init 198 = .ok (.newarray .int, 2) := by decide +kernel
theorem dX9_init_200 : decode cX9_init 200 = .ok (.putfield 86, 3) := by decide +kernel
theorem dX9_init_203 : decode cX9_init 203 = .ok (.aload_n 0, 1) := by decide +kernel
theorem dX9_init_204 : decode cX9_init 204 = .ok (.bipush 8, 2) := by decide +kernel
theorem dX9_init_206 : decode cX9_init 206 = .ok (.newarray .int, 2) := by decide +kernel
theorem dX9_init_208 : decode cX9_init 208 = .ok (.putfield 89, 3) := by decide +kernel
theorem dX9_init_211 : decode cX9_init 211 = .ok (.aload_n 0, 1) := by decide +kernel
theorem dX9_init_212 : decode cX9_init 212 = .ok (.bipush 8, 2) := by decide +kernel
theorem dX9_init_214 : decode cX9_init 214 = .ok (.newarray .int, 2) := by decide +kernel
theorem dX9_init_216 : decode cX9_init 216 = .ok (.putfield 92, 3) := by decide +kernel
theorem dX9_init_219 : decode cX9_init 219 = .ok (.aload_n 0, 1) := by decide +kernel
theorem dX9_init_220 : decode cX9_init 220 = .ok (.iconst 4, 1) := by decide +kernel
theorem dX9_init_221 : decode cX9_init 221 = .ok (.newarray .int, 2) := by decide +kernel
theorem dX9_init_223 : decode cX9_init 223 = .ok (.putfield 95, 3) := by decide +kernel
theorem dX9_init_226 : decode cX9_init 226 = .ok (.aload_n 0, 1) := by decide +kernel
theorem dX9_init_227 : decode cX9_init 227 = .ok (.bipush 6, 2) := by decide +kernel
theorem dX9_init_229 : decode cX9_init 229 = .ok (.newarray .int, 2) := by decide +kernel
theorem dX9_init_231 : decode cX9_init 231 = .ok (.putfield 98, 3) := by decide +kernel
theorem dX9_init_234 : decode cX9_init 234 = .ok (.aload_n 0, 1) := by decide +kernel
theorem dX9_init_235 : decode cX9_init 235 = .ok (.bipush 6, 2) := by decide +kernel
theorem dX9_init_237 : decode cX9_init 237 = .ok (.newarray .int, 2) := by decide +kernel
theorem dX9_init_239 : decode cX9_init 239 = .ok (.putfield 101, 3) := by decide +kernel
theorem dX9_init_242 : decode cX9_init 242 = .ok (.aload_n 0, 1) := by decide +kernel
theorem dX9_init_243 : decode cX9_init 243 = .ok (.sipush 2400, 3) := by decide +kernel
theorem dX9_init_246 : decode cX9_init 246 = .ok (.newarray .boolean, 2) := by decide +kernel
theorem dX9_init_248 : decode cX9_init 248 = .ok (.putfield 104, 3) := by decide +kernel
theorem dX9_init_251 : decode cX9_init 251 = .ok (.aload_n 0, 1) := by decide +kernel
theorem dX9_init_252 : decode cX9_init 252 = .ok (.sipush 2400, 3) := by decide +kernel
theorem dX9_init_255 : decode cX9_init 255 = .ok (.newarray .boolean, 2) := by decide +kernel
theorem dX9_init_257 : decode cX9_init 257 = .ok (.putfield 107, 3) := by decide +kernel
theorem dX9_init_260 : decode cX9_init 260 = .ok (.aload_n 0, 1) := by decide +kernel
theorem dX9_init_261 : decode cX9_init 261 = .ok (.sipush 600, 3) := by decide +kernel
theorem dX9_init_264 : decode cX9_init 264 = .ok (.newarray .boolean, 2) := by decide +kernel
theorem dX9_init_266 : decode cX9_init 266 = .ok (.putfield 110, 3) := by decide +kernel
theorem dX9_init_269 : decode cX9_init 269 = .ok (.aload_n 0, 1) := by decide +kernel
theorem dX9_init_270 : decode cX9_init 270 = .ok (.sipush 21600, 3) := by decide +kernel
theorem dX9_init_273 : decode cX9_init 273 = .ok (.newarray .boolean, 2) := by decide +kernel
theorem dX9_init_275 : decode cX9_init 275 = .ok (.putfield 113, 3) := by decide +kernel
theorem dX9_init_278 : decode cX9_init 278 = .ok (.aload_n 0, 1) := by decide +kernel
theorem dX9_init_279 : decode cX9_init 279 = .ok (.bipush 7, 2) := by decide +kernel
theorem dX9_init_281 : decode cX9_init 281 = .ok (.newarray .int, 2) := by decide +kernel
theorem dX9_init_283 : decode cX9_init 283 = .ok (.putfield 116, 3) := by decide +kernel
theorem dX9_init_286 : decode cX9_init 286 = .ok (.aload_n 0, 1) := by decide +kernel
theorem dX9_init_287 : decode cX9_init 287 = .ok (.sipush 500, 3) := by decide +kernel
theorem dX9_init_290 : decode cX9_init 290 = .ok (.newarray .int, 2) := by decide +kernel
theorem dX9_init_292 : decode cX9_init 292 = .ok (.putfield 119, 3) := by decide +kernel
theorem dX9_init_295 : decode cX9_init 295 = .ok (.aload_n 0, 1) := by decide +kernel
theorem dX9_init_296 : decode cX9_init 296 = .ok (.sipush 2400, 3) := by decide +kernel
theorem dX9_init_299 : decode cX9_init 299 = .ok (.newarray .int, 2) := by decide +kernel
theorem dX9_init_301 : decode cX9_init 301 = .ok (.putfield 122, 3) := by decide +kernel
theorem dX9_init_304 : decode cX9_init 304 = .ok (.aload_n 0, 1) := by decide +kernel
theorem dX9_init_305 : decode cX9_init 305 = .ok (.sipush 2400, 3) := by decide +kernel
theorem dX9_init_308 : decode cX9_init 308 = .ok (.newarray .int, 2) := by decide +kernel
theorem dX9_init_310 : decode cX9_init 310 = .ok (.putfield 125, 3) := by decide +kernel
theorem dX9_init_313 : decode cX9_init 313 = .ok (.aload_n 0, 1) := by decide +kernel
theorem dX9_init_314 : decode cX9_init 314 = .ok (.sipush 2400, 3) := by decide +kernel
theorem dX9_init_317 : decode cX9_init 317 = .ok (.newarray .int, 2) := by decide +kernel
theorem dX9_init_319 : decode cX9_init 319 = .ok (.putfield 128, 3) := by decide +kernel
theorem dX9_init_322 : decode cX9_init 322 = .ok (.aload_n 0, 1) := by decide +kernel
theorem dX9_init_323 : decode cX9_init 323 = .ok (.sipush 2400, 3) := by decide +kernel
theorem dX9_init_326 : decode cX9_init 326 = .ok (.newarray .int, 2) := by decide +kernel
theorem dX9_init_328 : decode cX9_init 328 = .ok (.putfield 131, 3) := by decide +kernel
theorem dX9_init_331 : decode cX9_init 331 = .ok (.aload_n 0, 1) := by decide +kernel
theorem dX9_init_332 : decode cX9_init 332 = .ok (.sipush 2400, 3) := by decide +kernel
theorem dX9_init_335 : decode cX9_init 335 = .ok (.newarray .int, 2) := by decide +kernel
theorem dX9_init_337 : decode cX9_init 337 = .ok (.putfield 134, 3) := by decide +kernel
theorem dX9_init_340 : decode cX9_init 340 = .ok (.aload_n 0, 1) := by decide +kernel
theorem dX9_init_341 : decode cX9_init 341 = .ok (.sipush 2400, 3) := by decide +kernel
theorem dX9_init_344 : decode cX9_init 344 = .ok (.newarray .int, 2) := by decide +kernel
theorem dX9_init_346 : decode cX9_init 346 = .ok (.putfield 137, 3) := by decide +kernel
theorem dX9_init_349 : decode cX9_init 349 = .ok (.aload_n 0, 1) := by decide +kernel
theorem dX9_init_350 : decode cX9_init 350 = .ok (.sipush 2400, 3) := by decide +kernel
theorem dX9_init_353 : decode cX9_init 353 = .ok (.newarray .int, 2) := by decide +kernel
theorem dX9_init_355 : decode cX9_init 355 = .ok (.putfield 140, 3) := by decide +kernel
theorem dX9_init_358 : decode cX9_init 358 = .ok (.aload_n 0, 1) := by decide +kernel
theorem dX9_init_359 : decode cX9_init 359 = .ok (.sipush 2400, 3) := by decide +kernel
theorem dX9_init_362 : decode cX9_init 362 = .ok (.newarray .int, 2) := by decide +kernel
theorem dX9_init_364 : decode cX9_init 364 = .ok (.putfield 143, 3) := by decide +kernel
theorem dX9_init_367 : decode cX9_init 367 = .ok (.aload_n 0, 1) := by decide +kernel
theorem dX9_init_368 : decode cX9_init 368 = .ok (.sipush 2400, 3) := by decide +kernel
theorem dX9_init_371 : decode cX9_init 371 = .ok (.newarray .int, 2) := by decide +kernel
theorem dX9_init_373 : decode cX9_init 373 = .ok (.putfield 146, 3) := by decide +kernel
theorem dX9_init_376 : decode cX9_init 376 = .ok (.aload_n 0, 1) := by decide +kernel
theorem dX9_init_377 : decode cX9_init 377 = .ok (.sipush 2400, 3) := by decide +kernel
theorem dX9_init_380 : decode cX9_init 380 = .ok (.newarray .int, 2) := by decide +kernel
theorem dX9_init_382 : decode cX9_init 382 = .ok (.putfield 149, 3) := by decide +kernel
theorem dX9_init_385 : decode cX9_init 385 = .ok (.aload_n 0, 1) := by decide +kernel
theorem dX9_init_386 : decode cX9_init 386 = .ok (.sipush 300, 3) := by decide +kernel
theorem dX9_init_389 : decode cX9_init 389 = .ok (.newarray .int, 2) := by decide +kernel
theorem dX9_init_391 : decode cX9_init 391 = .ok (.putfield 152, 3) := by decide +kernel
theorem dX9_init_394 : decode cX9_init 394 = .ok (.aload_n 0, 1) := by decide +kernel
theorem dX9_init_395 : decode cX9_init 395 = .ok (.bipush 72, 2) := by decide +kernel
theorem dX9_init_397 : decode cX9_init 397 = .ok (.newarray .int, 2) := by decide +kernel
theorem dX9_init_399 : decode cX9_init 399 = .ok (.putfield 155, 3) := by decide +kernel
theorem dX9_init_402 : decode cX9_init 402 = .ok (.aload_n 0, 1) := by decide +kernel
theorem dX9_init_403 : decode cX9_init 403 = .ok (.bipush 8, 2) := by decide +kernel
theorem dX9_init_405 : decode cX9_init 405 = .ok (.newarray .int, 2) := by decide +kernel
theorem dX9_init_407 : decode cX9_init 407 = .ok (.putfield 158, 3) := by decide +kernel
theorem dX9_init_410 : decode cX9_init 410 = .ok (.aload_n 0, 1) := by decide +kernel
theorem dX9_init_411 : decode cX9_init 411 = .ok (.bipush 8, 2) := by decide +kernel
theorem dX9_init_413 : decode cX9_init 413 = .ok (.newarray .int, 2) := by decide +kernel
theorem dX9_init_415 : decode cX9_init 415 = .ok (.putfield 161, 3) := by decide +kernel
theorem dX9_init_418 : decode cX9_init 418 = .ok (.aload_n 0, 1) := by decide +kernel
theorem dX9_init_419 : decode cX9_init 419 = .ok (.bipush 8, 2) := by decide +kernel
theorem dX9_init_421 : decode cX9_init 421 = .ok (.newarray .int, 2) := by decide +kernel
theorem dX9_init_423 : decode cX9_init 423 = .ok (.putfield 164, 3) := by decide +kernel
theorem dX9_init_426 : decode cX9_init 426 = .ok (.aload_n 0, 1) := by decide +kernel
theorem dX9_init_427 : decode cX9_init 427 = .ok (.bipush 8, 2) := by decide +kernel
theorem dX9_init_429 : decode cX9_init 429 = .ok (.newarray .int, 2) := by decide +kernel
theorem dX9_init_431 : decode cX9_init 431 = .ok (.putfield 167, 3) := by decide +kernel
theorem dX9_init_434 : decode cX9_init 434 = .ok (.aload_n 0, 1) := by decide +kernel
theorem dX9_init_435 : decode cX9_init 435 = .ok (.bipush 8, 2) := by decide +kernel
theorem dX9_init_437 : decode cX9_init 437 = .ok (.newarray .int, 2) := by decide +kernel
theorem dX9_init_439 : decode cX9_init 439 = .ok (.putfield 170, 3) := by decide +kernel
theorem dX9_init_442 : decode cX9_init 442 = .ok (.aload_n 0, 1) := by decide +kernel
theorem dX9_init_443 : decode cX9_init 443 = .ok (.bipush 8, 2) := by decide +kernel
theorem dX9_init_445 : decode cX9_init 445 = .ok (.newarray .int, 2) := by decide +kernel
theorem dX9_init_447 : decode cX9_init 447 = .ok (.putfield 173, 3) := by decide +kernel
theorem dX9_init_450 : decode cX9_init 450 = .ok (.aload_n 0, 1) := by decide +kernel
theorem dX9_init_451 : decode cX9_init 451 = .ok (.bipush 8, 2) := by decide +kernel
theorem dX9_init_453 : decode cX9_init 453 = .ok (.newarray .int, 2) := by decide +kernel
theorem dX9_init_455 : decode cX9_init 455 = .ok (.putfield 176, 3) := by decide +kernel
theorem dX9_init_458 : decode cX9_init 458 = .ok (.aload_n 0, 1) := by decide +kernel
theorem dX9_init_459 : decode cX9_init 459 = .ok (.bipush 8, 2) := by decide +kernel
theorem dX9_init_461 : decode cX9_init 461 = .ok (.newarray .int, 2) := by decide +kernel
theorem dX9_init_463 : decode cX9_init 463 = .ok (.putfield 179, 3) := by decide +kernel
theorem dX9_init_466 : decode cX9_init 466 = .ok (.aload_n 0, 1) := by decide +kernel
theorem dX9_init_467 : decode cX9_init 467 = .ok (.bipush 8, 2) := by decide +kernel
theorem dX9_init_469 : decode cX9_init 469 = .ok (.newarray .int, 2) := by decide +kernel
theorem dX9_init_471 : decode cX9_init 471 = .ok (.putfield 182, 3) := by decide +kernel
theorem dX9_init_474 : decode cX9_init 474 = .ok (.aload_n 0, 1) := by decide +kernel
theorem dX9_init_475 : decode cX9_init 475 = .ok (.bipush 8, 2) := by decide +kernel
theorem dX9_init_477 : decode cX9_init 477 = .ok (.newarray .int, 2) := by decide +kernel
theorem dX9_init_479 : decode cX9_init 479 = .ok (.putfield 185, 3) := by decide +kernel
theorem dX9_init_482 : decode cX9_init 482 = .ok (.aload_n 0, 1) := by decide +kernel
theorem dX9_init_483 : decode cX9_init 483 = .ok (.bipush 8, 2) := by decide +kernel
theorem dX9_init_485 : decode cX9_init 485 = .ok (.newarray .int, 2) := by decide +kernel
theorem dX9_init_487 : decode cX9_init 487 = .ok (.putfield 188, 3) := by decide +kernel
theorem dX9_init_490 : decode cX9_init 490 = .ok (.aload_n 0, 1) := by decide +kernel
theorem dX9_init_491 : decode cX9_init 491 = .ok (.bipush 8, 2) := by decide +kernel
theorem dX9_init_493 : decode cX9_init 493 = .ok (.newarray .int, 2) := by decide +kernel
theorem dX9_init_495 : decode cX9_init 495 = .ok (.putfield 191, 3) := by decide +kernel
theorem dX9_init_498 : decode cX9_init 498 = .ok (.aload_n 0, 1) := by decide +kernel
theorem dX9_init_499 : decode cX9_init 499 = .ok (.bipush 8, 2) := by decide +kernel
theorem dX9_init_501 : decode cX9_init 501 = .ok (.newarray .int, 2) := by decide +kernel
theorem dX9_init_503 : decode cX9_init 503 = .ok (.putfield 194, 3) := by decide +kernel
theorem dX9_init_506 : decode cX9_init 506 = .ok (.aload_n 0, 1) := by decide +kernel
theorem dX9_init_507 : decode cX9_init 507 = .ok (.bipush 72, 2) := by decide +kernel
theorem dX9_init_509 : decode cX9_init 509 = .ok (.newarray .boolean, 2) := by decide +kernel
theorem dX9_init_511 : decode cX9_init 511 = .ok (.putfield 197, 3) := by decide +kernel
theorem dX9_init_514 : decode cX9_init 514 = .ok (.aload_n 0, 1) := by decide +kernel
theorem dX9_init_515 : decode cX9_init 515 = .ok (.bipush 8, 2) := by decide +kernel
theorem dX9_init_517 : decode cX9_init 517 = .ok (.newarray .boolean, 2) := by decide +kernel
theorem dX9_init_519 : decode cX9_init 519 = .ok (.putfield 200, 3) := by decide +kernel
theorem dX9_init_522 : decode cX9_init 522 = .ok (.aload_n 0, 1) := by decide +kernel
theorem dX9_init_523 : decode cX9_init 523 = .ok (.iconst 4, 1) := by decide +kernel
theorem dX9_init_524 : decode cX9_init 524 = .ok (.newarray .int, 2) := by decide +kernel
theorem dX9_init_526 : decode cX9_init 526 = .ok (.putfield 203, 3) := by decide +kernel
theorem dX9_init_529 : decode cX9_init 529 = .ok (.aload_n 0, 1) := by decide +kernel
theorem dX9_init_530 : decode cX9_init 530 = .ok (.getfield 34, 3) := by decide +kernel
theorem dX9_init_533 : decode cX9_init 533 = .ok (.iconst 0, 1) := by decide +kernel
theorem dX9_init_534 : decode cX9_init 534 = .ok (.bipush 102, 2) := by decide +kernel
theorem dX9_init_536 : decode cX9_init 536 = .ok (.bipush 105, 2) := by decide +kernel
theorem dX9_init_538 : decode cX9_init 538 = .ok (.bipush 108, 2) := by decide +kernel
theorem dX9_init_540 : decode cX9_init 540 = .ok (.bipush 101, 2) := by decide +kernel
theorem dX9_init_542 : decode cX9_init 542 = .ok (.iconst 0, 1) := by decide +kernel
theorem dX9_init_543 : decode cX9_init 543 = .ok (.iconst 0, 1) := by decide +kernel
theorem dX9_init_544 : decode cX9_init 544 = .ok (.iconst 0, 1) := by decide +kernel
theorem dX9_init_545 : decode cX9_init 545 = .ok (.invokestatic 206, 3) := by decide +kernel
theorem dX9_init_548 : decode cX9_init 548 = .ok (.lastore, 1) := by decide +kernel
theorem dX9_init_549 : decode cX9_init 549 = .ok (.aload_n 0, 1) := by decide +kernel
theorem dX9_init_550 : decode cX9_init 550 = .ok (.getfield 34, 3) := by decide +kernel
theorem dX9_init_553 : decode cX9_init 553 = .ok (.iconst 1, 1) := by decide +kernel
theorem dX9_init_554 : decode cX9_init 554 = .ok (.bipush 105, 2) := by decide +kernel
theorem dX9_init_556 : decode cX9_init 556 = .ok (.bipush 102, 2) := by decide +kernel
theorem dX9_init_558 : decode cX9_init 558 = .ok (.iconst 0, 1) := by decide +kernel
theorem dX9_init_559 : decode cX9_init 559 = .ok (.iconst 0, 1) := by decide +kernel
theorem dX9_init_560 : decode cX9_init 560 = .ok (.iconst 0, 1) := by decide +kernel
theorem dX9_init_561 : decode cX9_init 561 = .ok (.iconst 0, 1) := by decide +kernel
theorem dX9_init_562 : decode cX9_init 562 = .ok (.iconst 0, 1) := by decide +kernel
theorem dX9_init_563 : decode cX9_init 563 = .ok (.invokestatic 206, 3) := by decide +kernel
theorem dX9_init_566 : decode cX9_init 566 = .ok (.lastore, 1) := by decide +kernel
theorem dX9_init_567 : decode cX9_init 567 = .ok (.aload_n 0, 1) := by decide +kernel
theorem dX9_init_568 : decode cX9_init 568 = .ok (.getfield 34, 3) := by decide +kernel
theorem dX9_init_571 : decode cX9_init 571 = .ok (.iconst 2, 1) := by decide +kernel
theorem dX9_init_572 : decode cX9_init 572 = .ok (.bipush 97, 2) := by decide +kernel
theorem dX9_init_574 : decode cX9_init 574 = .ok (.bipush 102, 2) := by decide +kernel
theorem dX9_init_576 : decode cX9_init 576 = .ok (.bipush 116, 2) := by decide +kernel
theorem dX9_init_578 : decode cX9_init 578 = .ok (.bipush 101, 2) := by decide +kernel
theorem dX9_init_580 : decode cX9_init 580 = .ok (.bipush 114, 2) := by decide +kernel
theorem dX9_init_582 : decode cX9_init 582 = .ok (.iconst 0, 1) := by decide +kernel
theorem dX9_init_583 : decode cX9_init 583 = .ok (.iconst 0, 1) := by decide +kernel
theorem dX9_init_584 : decode cX9_init 584 = .ok (.invokestatic 206, 3) := by decide +kernel
theorem dX9_init_587 : decode cX9_init 587 = .ok (.lastore, 1) := by decide +kernel
theorem dX9_init_588 : decode cX9_init 588 = .ok (.aload_n 0, 1) := by decide +kernel
theorem dX9_init_589 : decode cX9_init 589 = .ok (.getfield 34, 3) := by decide +kernel
theorem dX9_init_592 : decode cX9_init 592 = .ok (.iconst 3, 1) := by decide +kernel
theorem dX9_init_593 : decode cX9_init 593 = .ok (.bipush 111, 2) := by decide +kernel
theorem dX9_init_595 : decode cX9_init 595 = .ok (.bipush 114, 2) := by decide +kernel
theorem dX9_init_597 : decode cX9_init 597 = .ok (.iconst 0, 1) := by decide +kernel
theorem dX9_init_598 : decode cX9_init 598 = .ok (.iconst 0, 1) := by decide +kernel
theorem dX9_init_599 : decode cX9_init 599 = .ok (.iconst 0, 1) := by decide +kernel
theorem dX9_init_600 : decode cX9_init 600 = .ok (.iconst 0, 1) := by decide +kernel
theorem dX9_init_601 : decode cX9_init 601 = .ok (.iconst 0, 1) := by decide +kernel
theorem dX9_init_602 : decode cX9_init 602 = .ok (.invokestatic 206, 3) := by decide +kernel
theorem dX9_init_605 : decode cX9_init 605 = .ok (.lastore, 1) := by decide +kernel
theorem dX9_init_606 : decode cX9_init 606 = .ok (.aload_n 0, 1) := by decide +kernel
theorem dX9_init_607 : decode cX9_init 607 = .ok (.getfield 34, 3) := by decide +kernel
theorem dX9_init_610 : decode cX9_init 610 = .ok (.iconst 4, 1) := by decide +kernel
theorem dX9_init_611 : decode cX9_init 611 = .ok (.bipush 97, 2) := by decide +kernel
theorem dX9_init_613 : decode cX9_init 613 = .ok (.bipush 110, 2) := by decide +kernel
theorem dX9_init_615 : decode cX9_init 615 = .ok (.bipush 100, 2) := by decide +kernel
theorem dX9_init_617 : decode cX9_init 617 = .ok (.iconst 0, 1) := by decide +kernel
theorem dX9_init_618 : decode cX9_init 618 = .ok (.iconst 0, 1) := by decide +kernel
theorem dX9_init_619 : decode cX9_init 619 = .ok (.iconst 0, 1) := by decide +kernel
theorem dX9_init_620 : decode cX9_init 620 = .ok (.iconst 0, 1) := by decide +kernel
theorem dX9_init_621 : decode cX9_init 621 = .ok (.invokestatic 206, 3) := by decide +kernel
theorem dX9_init_624 : decode cX9_init 624 = .ok (.lastore, 1) := by decide +kernel
theorem dX9_init_625 : decode cX9_init 625 = .ok (.aload_n 0, 1) := by decide +kernel
theorem dX9_init_626 : decode cX9_init 626 = .ok (.getfield 34, 3) := by decide +kernel
theorem dX9_init_629 : decode cX9_init 629 = .ok (.iconst 5, 1) := by decide +kernel
theorem dX9_init_630 : decode cX9_init 630 = .ok (.bipush 107, 2) := by decide +kernel
theorem dX9_init_632 : decode cX9_init 632 = .ok (.bipush 105, 2) := by decide +kernel
theorem dX9_init_634 : decode cX9_init 634 = .ok (.bipush 110, 2) := by decide +kernel
theorem dX9_init_636 : decode cX9_init 636 = .ok (.bipush 100, 2) := by decide +kernel
theorem dX9_init_638 : decode cX9_init 638 = .ok (.iconst 0, 1) := by decide +kernel
theorem dX9_init_639 : decode cX9_init 639 = .ok (.iconst 0, 1) := by decide +kernel
theorem dX9_init_640 : decode cX9_init 640 = .ok (.iconst 0, 1) := by decide +kernel
theorem dX9_init_641 : decode cX9_init 641 = .ok (.invokestatic 206, 3) := by decide +kernel
theorem dX9_init_644 : decode cX9_init 644 = .ok (.lastore, 1) := by decide +kernel
theorem dX9_init_645 : decode cX9_init 645 = .ok (.aload_n 0, 1) := by decide +kernel
theorem dX9_init_646 : decode cX9_init 646 = .ok (.getfield 34, 3) := by decide +kernel
theorem dX9_init_649 : decode cX9_init 649 = .ok (.bipush 6, 2) := by decide +kernel
theorem dX9_init_651 : decode cX9_init 651 = .ok (.bipush 112, 2) := by decide +kernel
theorem dX9_init_653 : decode cX9_init 653 = .ok (.bipush 108, 2) := by decide +kernel
theorem dX9_init_655 : decode cX9_init 655 = .ok (.bipush 97, 2) := by decide +kernel
theorem dX9_init_657 : decode cX9_init 657 = .ok (.bipush 99, 2) := by decide +kernel
theorem dX9_init_659 : decode cX9_init 659 = .ok (.bipush 101, 2) := by decide +kernel
theorem dX9_init_661 : decode cX9_init 661 = .ok (.iconst 0, 1) := by decide +kernel
theorem dX9_init_662 : decode cX9_init 662 = .ok (.iconst 0, 1) := by decide +kernel
theorem dX9_init_663 : decode cX9_init 663 = .ok (.invokestatic 206, 3) := by decide +kernel
theorem dX9_init_666 : decode cX9_init 666 = .ok (.lastore, 1) := by decide +kernel
theorem dX9_init_667 : decode cX9_init 667 = .ok (.aload_n 0, 1) := by decide +kernel
theorem dX9_init_668 : decode cX9_init 668 = .ok (.getfield 34, 3) := by decide +kernel
theorem dX9_init_671 : decode cX9_init 671 = .ok (.bipush 7, 2) := by decide +kernel
theorem dX9_init_673 : decode cX9_init 673 = .ok (.bipush 109, 2) := by decide +kernel
theorem dX9_init_675 : decode cX9_init 675 = .ok (.bipush 97, 2) := by decide +kernel
theorem dX9_init_677 : decode cX9_init 677 = .ok (.bipush 114, 2) := by decide +kernel
theorem dX9_init_679 : decode cX9_init 679 = .ok (.bipush 107, 2) := by decide +kernel
theorem dX9_init_681 : decode cX9_init 681 = .ok (.iconst 0, 1) := by decide +kernel
theorem dX9_init_682 : decode cX9_init 682 = .ok (.iconst 0, 1) := by decide +kernel
theorem dX9_init_683 : decode cX9_init 683 = .ok (.iconst 0, 1) := by decide +kernel
theorem dX9_init_684 : decode cX9_init 684 = .ok (.invokestatic 206, 3) := by decide +kernel
theorem dX9_init_687 : decode cX9_init 687 = .ok (.lastore, 1) := by decide +kernel
theorem dX9_init_688 : decode cX9_init 688 = .ok (.aload_n 0, 1) := by decide +kernel
theorem dX9_init_689 : decode cX9_init 689 = .ok (.getfield 34, 3) := by decide +kernel
theorem dX9_init_692 : decode cX9_init 692 = .ok (.bipush 8, 2) := by decide +kernel
theorem dX9_init_694 : decode cX9_init 694 = .ok (.bipush 116, 2) := by decide +kernel
theorem dX9_init_696 : decode cX9_init 696 = .ok (.bipush 114, 2) := by decide +kernel
theorem dX9_init_698 : decode cX9_init 698 = .ok (.bipush 105, 2) := by decide +kernel
theorem dX9_init_700 : decode cX9_init 700 = .ok (.bipush 101, 2) := by decide +kernel
theorem dX9_init_702 : decode cX9_init 702 = .ok (.bipush 115, 2) := by decide +kernel
theorem dX9_init_704 : decode cX9_init 704 = .ok (.iconst 0, 1) := by decide +kernel
theorem dX9_init_705 : decode cX9_init 705 = .ok (.iconst 0, 1) := by decide +kernel
theorem dX9_init_706 : decode cX9_init 706 = .ok (.invokestatic 206, 3) := by decide +kernel
theorem dX9_init_709 : decode cX9_init 709 = .ok (.lastore, 1) := by decide +kernel
theorem dX9_init_710 : decode cX9_init 710 = .ok (.aload_n 0, 1) := by decide +kernel
theorem dX9_init_711 : decode cX9_init 711 = .ok (.getfield 34, 3) := by decide +kernel
theorem dX9_init_714 : decode cX9_init 714 = .ok (.bipush 9, 2) := by decide +kernel
theorem dX9_init_716 : decode cX9_init 716 = .ok (.bipush 98, 2) := by decide +kernel
theorem dX9_init_718 : decode cX9_init 718 = .ok (.bipush 97, 2) := by decide +kernel
theorem dX9_init_720 : decode cX9_init 720 = .ok (.bipush 100, 2) := by decide +kernel
theorem dX9_init_722 : decode cX9_init 722 = .ok (.iconst 0, 1) := by decide +kernel
theorem dX9_init_723 : decode cX9_init 723 = .ok (.iconst 0, 1) := by decide +kernel
theorem dX9_init_724 : decode cX9_init 724 = .ok (.iconst 0, 1) := by decide +kernel
theorem dX9_init_725 : decode cX9_init 725 = .ok (.iconst 0, 1) := by decide +kernel
theorem dX9_init_726 : decode cX9_init 726 = .ok (.invokestatic 206, 3) := by decide +kernel
theorem dX9_init_729 : decode cX9_init 729 = .ok (.lastore, 1) := by decide +kernel
theorem dX9_init_730 : decode cX9_init 730 = .ok (.aload_n 0, 1) := by decide +kernel
theorem dX9_init_731 : decode cX9_init 731 = .ok (.getfield 34, 3) := by decide +kernel
theorem dX9_init_734 : decode cX9_init 734 = .ok (.bipush 10, 2) := by decide +kernel
theorem dX9_init_736 : decode cX9_init 736 = .ok (.bipush 98, 2) := by decide +kernel
theorem dX9_init_738 : decode cX9_init 738 = .ok (.bipush 101, 2) := by decide +kernel
theorem dX9_init_740 : decode cX9_init 740 = .ok (.bipush 103, 2) := by decide +kernel
theorem dX9_init_742 : decode cX9_init 742 = .ok (.bipush 117, 2) := by decide +kernel
theorem dX9_init_744 : decode cX9_init 744 = .ok (.bipush 110, 2) := by decide +kernel
theorem dX9_init_746 : decode cX9_init 746 = .ok (.iconst 0, 1) := by decide +kernel
theorem dX9_init_747 : decode cX9_init 747 = .ok (.iconst 0, 1) := by decide +kernel
theorem dX9_init_748 : decode cX9_init 748 = .ok (.invokestatic 206, 3) := by decide +kernel
theorem dX9_init_751 : decode cX9_init 751 = .ok (.lastore, 1) := by decide +kernel
theorem dX9_init_752 : decode cX9_init 752 = .ok (.aload_n 0, 1) := by decide +kernel
theorem dX9_init_753 : decode cX9_init 753 = .ok (.getfield 34, 3) := by decide +kernel
theorem dX9_init_756 : decode cX9_init 756 = .ok (.bipush 11, 2) := by decide +kernel
theorem dX9_init_758 : decode cX9_init 758 = .ok (.bipush 116, 2) := by decide +kernel
theorem dX9_init_760 : decode cX9_init 760 = .ok (.bipush 105, 2) := by decide +kernel
theorem dX9_init_762 : decode cX9_init 762 = .ok (.bipush 99, 2) := by decide +kernel
theorem dX9_init_764 : decode cX9_init 764 = .ok (.bipush 107, 2) := by decide +kernel
theorem dX9_init_766 : decode cX9_init 766 = .ok (.iconst 0, 1) := by decide +kernel
theorem dX9_init_767 : decode cX9_init 767 = .ok (.iconst 0, 1) := by decide +kernel
theorem dX9_init_768 : decode cX9_init 768 = .ok (.iconst 0, 1) := by decide +kernel
theorem dX9_init_769 : decode cX9_init 769 = .ok (.invokestatic 206, 3) := by decide +kernel
theorem dX9_init_772 : decode cX9_init 772 = .ok (.lastore, 1) := by decide +kernel
theorem dX9_init_773 : decode cX9_init 773 = .ok (.aload_n 0, 1) := by decide +kernel
theorem dX9_init_774 : decode cX9_init 774 = .ok (.iconst 2, 1) := by decide +kernel
theorem dX9_init_775 : decode cX9_init 775 = .ok (.putfield 210, 3) := by decide +kernel
theorem dX9_init_778 : decode cX9_init 778 = .ok (.return_, 1) := by decide +kernel
theorem dX9_feed_0 : decode cX9_feed 0 = .ok (.aload_n 0, 1) := by decide +kernel
theorem dX9_feed_1 : decode cX9_feed 1 = .ok (.getfield 213, 3) := by decide +kernel
theorem dX9_feed_4 : decode cX9_feed 4 = .ok (.bipush 20, 2) := by decide +kernel
theorem dX9_feed_6 : decode cX9_feed 6 = .ok (.iadd, 1) := by decide +kernel
theorem dX9_feed_7 : decode cX9_feed 7 = .ok (.sipush 2000, 3) := by decide +kernel
theorem dX9_feed_10 : decode cX9_feed 10 = .ok (.if_icmp .le 5, 3) := by decide +kernel
theorem dX9_feed_13 : decode cX9_feed 13 = .ok (.iconst (-1), 1) := by decide +kernel
theorem dX9_feed_14 : decode cX9_feed 14 = .ok (.ireturn, 1) := by decide +kernel
theorem dX9_feed_15 : decode cX9_feed 15 = .ok (.aload_n 0, 1) := by decide +kernel
theorem dX9_feed_16 : decode cX9_feed 16 = .ok (.iload_n 1, 1) := by decide +kernel
theorem dX9_feed_17 : decode cX9_feed 17 = .ok (.invokevirtual 216, 3) := by decide +kernel
theorem dX9_feed_20 : decode cX9_feed 20 = .ok (.aload_n 0, 1) := by decide +kernel
theorem dX9_feed_21 : decode cX9_feed 21 = .ok (.iload_n 2, 1) := by decide +kernel
theorem dX9_feed_22 : decode cX9_feed 22 = .ok (.invokevirtual 216, 3) := by decide +kernel
theorem dX9_feed_25 : decode cX9_feed 25 = .ok (.aload_n 0, 1) := by decide +kernel
theorem dX9_feed_26 : decode cX9_feed 26 = .ok (.iload_n 3, 1) := by decide +kernel
theorem dX9_feed_27 : decode cX9_feed 27 = .ok (.invokevirtual 216, 3) := by decide +kernel
theorem dX9_feed_30 : decode cX9_feed 30 = .ok (.aload_n 0, 1) := by decide +kernel
theorem dX9_feed_31 : decode cX9_feed 31 = .ok (.iload 4, 2) := by decide +kernel
theorem dX9_feed_33 : decode cX9_feed 33 = .ok (.invokevirtual 216, 3) := by decide +kernel
theorem dX9_feed_36 : decode cX9_feed 36 = .ok (.aload_n 0, 1) := by decide +kernel
theorem dX9_feed_37 : decode cX9_feed 37 = .ok (.iload 5, 2) := by decide +kernel
theorem dX9_feed_39 : decode cX9_feed 39 = .ok (.invokevirtual 216, 3) := by decide +kernel
theorem dX9_feed_42 : decode cX9_feed 42 = .ok (.aload_n 0, 1) := by decide +kernel
theorem dX9_feed_43 : decode cX9_feed 43 = .ok (.getfield 213, 3) := by decide +kernel
theorem dX9_feed_46 : decode cX9_feed 46 = .ok (.ireturn, 1) := by decide +kernel
theorem dX9_put_0 : decode cX9_put 0 = .ok (.bipush 24, 2) := by decide +kernel
theorem dX9_put_2 : decode cX9_put 2 = .ok (.istore_n 2, 1) := by decide +kernel
theorem dX9_put_3 : decode cX9_put 3 = .ok (.iload_n 2, 1) := by decide +kernel
theorem dX9_put_4 : decode cX9_put 4 = .ok (.ifCond .lt 32, 3) := by decide +kernel
theorem dX9_put_7 : decode cX9_put 7 = .ok (.aload_n 0, 1) := by decide +kernel
theorem dX9_put_8 : decode cX9_put 8 = .ok (.getfield 13, 3) := by decide +kernel
theorem dX9_put_11 : decode cX9_put 11 = .ok (.aload_n 0, 1) := by decide +kernel
theorem dX9_put_12 : decode cX9_put 12 = .ok (.getfield 213, 3) := by decide +kernel
theorem dX9_put_15 : decode cX9_put 15 = .ok (.iload_n 1, 1) := by decide +kernel
theorem dX9_put_16 : decode cX9_put 16 = .ok (.iload_n 2, 1) := by decide +kernel
theorem dX9_put_17 : decode cX9_put 17 = .ok (.ishr, 1) := by decide +kernel
theorem dX9_put_18 : decode cX9_put 18 = .ok (.i2b, 1) := by decide +kernel
theorem dX9_put_19 : decode cX9_put 19 = .ok (.bastore, 1) := by decide +kernel
theorem dX9_put_20 : decode cX9_put 20 = .ok (.aload_n 0, 1) := by decide +kernel
theorem dX9_put_21 : decode cX9_put 21 = .ok (.dup, 1) := by decide +kernel
theorem dX9_put_22 : decode cX9_put 22 = .ok (.getfield 213, 3) := by decide +kernel
theorem dX9_put_25 : decode cX9_put 25 = .ok (.iconst 1, 1) := by decide +kernel
theorem dX9_put_26 : decode cX9_put 26 = .ok (.iadd, 1) := by decide +kernel
theorem dX9_put_27 : decode cX9_put 27 = .ok (.putfield 213, 3) := by decide +kernel
theorem dX9_put_30 : decode cX9_put 30 = .ok (.iinc 2 (-8), 3) := by decide +kernel
theorem dX9_put_33 : decode cX9_put 33 = .ok (.goto (-30), 3) := by decide +kernel
theorem dX9_put_36 : decode cX9_put 36 = .ok (.return_, 1) := by decide +kernel
theorem dX9_back_0 : decode cX9_back 0 = .ok (.iload_n 1, 1) := by decide +kernel
theorem dX9_back_1 : decode cX9_back 1 = .ok (.ifCond .lt 11, 3) := by decide +kernel
theorem dX9_back_4 : decode cX9_back 4 = .ok (.iload_n 1, 1) := by decide +kernel
theorem dX9_back_5 : decode cX9_back 5 = .ok (.aload_n 0, 1) := by decide +kernel
theorem dX9_back_6 : decode cX9_back 6 = .ok (.getfield 213, 3) := by decide +kernel
theorem dX9_back_9 : decode cX9_back 9 = .ok (.if_icmp .le 5, 3) := by decide +kernel
theorem dX9_back_12 : decode cX9_back 12 = .ok (.iconst (-1), 1) := by decide +kernel
theorem dX9_back_13 : decode cX9_back 13 = .ok (.ireturn, 1) := by decide +kernel
theorem dX9_back_14 : decode cX9_back 14 = .ok (.aload_n 0, 1) := by decide +kernel
theorem dX9_back_15 : decode cX9_back 15 = .ok (.dup, 1) := by decide +kernel
theorem dX9_back_16 : decode cX9_back 16 = .ok (.getfield 213, 3) := by decide +kernel
theorem dX9_back_19 : decode cX9_back 19 = .ok (.iload_n 1, 1) := by decide +kernel
theorem dX9_back_20 : decode cX9_back 20 = .ok (.isub, 1) := by decide +kernel
theorem dX9_back_21 : decode cX9_back 21 = .ok (.putfield 213, 3) := by decide +kernel
theorem dX9_back_24 : decode cX9_back 24 = .ok (.aload_n 0, 1) := by decide +kernel
theorem dX9_back_25 : decode cX9_back 25 = .ok (.getfield 213, 3) := by decide +kernel
theorem dX9_back_28 : decode cX9_back 28 = .ok (.ireturn, 1) := by decide +kernel
theorem dX9_at_0 : decode cX9_at 0 = .ok (.iload_n 1, 1) := by decide +kernel
theorem dX9_at_1 : decode cX9_at 1 = .ok (.aload_n 0, 1) := by decide +kernel
theorem dX9_at_2 : decode cX9_at 2 = .ok (.getfield 220, 3) := by decide +kernel
theorem dX9_at_5 : decode cX9_at 5 = .ok (.if_icmp .ge 16, 3) := by decide +kernel
theorem dX9_at_8 : decode cX9_at 8 = .ok (.aload_n 0, 1) := by decide +kernel
theorem dX9_at_9 : decode cX9_at 9 = .ok (.getfield 17, 3) := by decide +kernel
theorem dX9_at_12 : decode cX9_at 12 = .ok (.iload_n 1, 1) := by decide +kernel
theorem dX9_at_13 : decode cX9_at 13 = .ok (.baload, 1) := by decide +kernel
theorem dX9_at_14 : decode cX9_at 14 = .ok (.sipush 255, 3) := by decide +kernel
theorem dX9_at_17 : decode cX9_at 17 = .ok (.iand, 1) := by decide +kernel
theorem dX9_at_18 : decode cX9_at 18 = .ok (.goto 4, 3) := by decide +kernel
theorem dX9_at_21 : decode cX9_at 21 = .ok (.iconst 0, 1) := by decide +kernel
theorem dX9_at_22 : decode cX9_at 22 = .ok (.ireturn, 1) := by decide +kernel
theorem dX9_isDigit_0 : decode cX9_isDigit 0 = .ok (.iload_n 0, 1) := by decide +kernel
theorem dX9_isDigit_1 : decode cX9_isDigit 1 = .ok (.bipush 48, 2) := by decide +kernel
theorem dX9_isDigit_3 : decode cX9_isDigit 3 = .ok (.if_icmp .lt 13, 3) := by decide +kernel
theorem dX9_isDigit_6 : decode cX9_isDigit 6 = .ok (.iload_n 0, 1) := by decide +kernel
theorem dX9_isDigit_7 : decode cX9_isDigit 7 = .ok (.bipush 57, 2) := by decide +kernel
theorem dX9_isDigit_9 : decode cX9_isDigit 9 = .ok (.if_icmp .gt 7, 3) := by decide +kernel
theorem dX9_isDigit_12 : decode cX9_isDigit 12 = .ok (.iconst 1, 1) := by decide +kernel
theorem dX9_isDigit_13 : decode cX9_isDigit 13 = .ok (.goto 4, 3) := by decide +kernel
theorem dX9_isDigit_16 : decode cX9_isDigit 16 = .ok (.iconst 0, 1) := by decide +kernel
theorem dX9_isDigit_17 : decode cX9_isDigit 17 = .ok (.ireturn, 1) := by decide +kernel
theorem dX9_isLetter_0 : decode cX9_isLetter 0 = .ok (.iload_n 0, 1) := by decide +kernel
theorem dX9_isLetter_1 : decode cX9_isLetter 1 = .ok (.bipush 97, 2) := by decide +kernel
theorem dX9_isLetter_3 : decode cX9_isLetter 3 = .ok (.if_icmp .lt 13, 3) := by decide +kernel
theorem dX9_isLetter_6 : decode cX9_isLetter 6 = .ok (.iload_n 0, 1) := by decide +kernel
theorem dX9_isLetter_7 : decode cX9_isLetter 7 = .ok (.bipush 122, 2) := by decide +kernel
theorem dX9_isLetter_9 : decode cX9_isLetter 9 = .ok (.if_icmp .gt 7, 3) := by decide +kernel
theorem dX9_isLetter_12 : decode cX9_isLetter 12 = .ok (.iconst 1, 1) := by decide +kernel
theorem dX9_isLetter_13 : decode cX9_isLetter 13 = .ok (.goto 4, 3) := by decide +kernel
theorem dX9_isLetter_16 : decode cX9_isLetter 16 = .ok (.iconst 0, 1) := by decide +kernel
theorem dX9_isLetter_17 : decode cX9_isLetter 17 = .ok (.ireturn, 1) := by decide +kernel
theorem dX9_more_0 : decode cX9_more 0 = .ok (.iload_n 2, 1) := by decide +kernel
theorem dX9_more_1 : decode cX9_more 1 = .ok (.ifCond .ne 7, 3) := by decide +kernel
theorem dX9_more_4 : decode cX9_more 4 = .ok (.lload_n 0, 1) := by decide +kernel
theorem dX9_more_5 : decode cX9_more 5 = .ok (.goto 16, 3) := by decide +kernel
theorem dX9_more_8 : decode cX9_more 8 = .ok (.ldc2_w 223, 3) := by decide +kernel
theorem dX9_more_11 : decode cX9_more 11 = .ok (.lload_n 0, 1) := by decide +kernel
theorem dX9_more_12 : decode cX9_more 12 = .ok (.lmul, 1) := by decide +kernel
theorem dX9_more_13 : decode cX9_more 13 = .ok (.iload_n 2, 1) := by decide +kernel
theorem dX9_more_14 : decode cX9_more 14 = .ok (.bipush 97, 2) := by decide +kernel
theorem dX9_more_16 : decode cX9_more 16 = .ok (.isub, 1) := by decide +kernel
theorem dX9_more_17 : decode cX9_more 17 = .ok (.iconst 1, 1) := by decide +kernel
theorem dX9_more_18 : decode cX9_more 18 = .ok (.iadd, 1) := by decide +kernel
theorem dX9_more_19 : decode cX9_more 19 = .ok (.i2l, 1) := by decide +kernel
theorem dX9_more_20 : decode cX9_more 20 = .ok (.ladd, 1) := by decide +kernel
theorem dX9_more_21 : decode cX9_more 21 = .ok (.lreturn, 1) := by decide +kernel
theorem dX9_word_0 : decode cX9_word 0 = .ok (.lconst 0, 1) := by decide +kernel
theorem dX9_word_1 : decode cX9_word 1 = .ok (.iload_n 0, 1) := by decide +kernel
theorem dX9_word_2 : decode cX9_word 2 = .ok (.invokestatic 225, 3) := by decide +kernel
theorem dX9_word_5 : decode cX9_word 5 = .ok (.iload_n 1, 1) := by decide +kernel
theorem dX9_word_6 : decode cX9_word 6 = .ok (.invokestatic 225, 3) := by decide +kernel
theorem dX9_word_9 : decode cX9_word 9 = .ok (.iload_n 2, 1) := by decide +kernel
theorem dX9_word_10 : decode cX9_word 10 = .ok (.invokestatic 225, 3) := by decide +kernel
theorem dX9_word_13 : decode cX9_word 13 = .ok (.iload_n 3, 1) := by decide +kernel
theorem dX9_word_14 : decode cX9_word 14 = .ok (.invokestatic 225, 3) := by decide +kernel
theorem dX9_word_17 : decode cX9_word 17 = .ok (.iload 4, 2) := by decide +kernel
theorem dX9_word_19 : decode cX9_word 19 = .ok (.invokestatic 225, 3) := by decide +kernel
theorem dX9_word_22 : decode cX9_word 22 = .ok (.iload 5, 2) := by decide +kernel
theorem dX9_word_24 : decode cX9_word 24 = .ok (.invokestatic 225, 3) := by decide +kernel
theorem dX9_word_27 : decode cX9_word 27 = .ok (.iload 6, 2) := by decide +kernel
theorem dX9_word_29 : decode cX9_word 29 = .ok (.invokestatic 225, 3) := by decide +kernel
theorem dX9_word_32 : decode cX9_word 32 = .ok (.lreturn, 1) := by decide +kernel
theorem dX9_token_0 : decode cX9_token 0 = .ok (.aload_n 0, 1) := by decide +kernel
theorem dX9_token_1 : decode cX9_token 1 = .ok (.getfield 20, 3) := by decide +kernel
theorem dX9_token_4 : decode cX9_token 4 = .ok (.aload_n 0, 1) := by decide +kernel
theorem dX9_token_5 : decode cX9_token 5 = .ok (.getfield 229, 3) := by decide +kernel
theorem dX9_token_8 : decode cX9_token 8 = .ok (.iload_n 1, 1) := by decide +kernel
theorem dX9_token_9 : decode cX9_token 9 = .ok (.iastore, 1) := by decide +kernel
theorem dX9_token_10 : decode cX9_token 10 = .ok (.aload_n 0, 1) := by decide +kernel
theorem dX9_token_11 : decode cX9_token 11 = .ok (.getfield 24, 3) := by decide +kernel
theorem dX9_token_14 : decode cX9_token 14 = .ok (.aload_n 0, 1) := by decide +kernel
theorem dX9_token_15 : decode cX9_token 15 = .ok (.getfield 229, 3) := by decide +kernel
theorem dX9_token_18 : decode cX9_token 18 = .ok (.iload_n 2, 1) := by decide +kernel
theorem dX9_token_19 : decode cX9_token 19 = .ok (.iastore, 1) := by decide +kernel
theorem dX9_token_20 : decode cX9_token 20 = .ok (.aload_n 0, 1) := by decide +kernel
theorem dX9_token_21 : decode cX9_token 21 = .ok (.getfield 27, 3) := by decide +kernel
theorem dX9_token_24 : decode cX9_token 24 = .ok (.aload_n 0, 1) := by decide +kernel
theorem dX9_token_25 : decode cX9_token 25 = .ok (.getfield 229, 3) := by decide +kernel
theorem dX9_token_28 : decode cX9_token 28 = .ok (.iload_n 3, 1) := by decide +kernel
theorem dX9_token_29 : decode cX9_token 29 = .ok (.iastore, 1) := by decide +kernel
theorem dX9_token_30 : decode cX9_token 30 = .ok (.aload_n 0, 1) := by decide +kernel
theorem dX9_token_31 : decode cX9_token 31 = .ok (.getfield 30, 3) := by decide +kernel
theorem dX9_token_34 : decode cX9_token 34 = .ok (.aload_n 0, 1) := by decide +kernel
theorem dX9_token_35 : decode cX9_token 35 = .ok (.getfield 229, 3) := by decide +kernel
theorem dX9_token_38 : decode cX9_token 38 = .ok (.lload 4, 2) := by decide +kernel
theorem dX9_token_40 : decode cX9_token 40 = .ok (.lastore, 1) := by decide +kernel
theorem dX9_token_41 : decode cX9_token 41 = .ok (.aload_n 0, 1) := by decide +kernel
theorem dX9_token_42 : decode cX9_token 42 = .ok (.dup, 1) := by decide +kernel
theorem dX9_token_43 : decode cX9_token 43 = .ok (.getfield 229, 3) := by decide +kernel
theorem dX9_token_46 : decode cX9_token 46 = .ok (.iconst 1, 1) := by decide +kernel
theorem dX9_token_47 : decode cX9_token 47 = .ok (.iadd, 1) := by decide +kernel
theorem dX9_token_48 : decode cX9_token 48 = .ok (.putfield 229, 3) := by decide +kernel
theorem dX9_token_51 : decode cX9_token 51 = .ok (.return_, 1) := by decide +kernel
theorem dX9_cut_0 : decode cX9_cut 0 = .ok (.aload_n 0, 1) := by decide +kernel
theorem dX9_cut_1 : decode cX9_cut 1 = .ok (.iconst 0, 1) := by decide +kernel
theorem dX9_cut_2 : decode cX9_cut 2 = .ok (.putfield 229, 3) := by decide +kernel
theorem dX9_cut_5 : decode cX9_cut 5 = .ok (.iconst 0, 1) := by decide +kernel
theorem dX9_cut_6 : decode cX9_cut 6 = .ok (.istore_n 1, 1) := by decide +kernel
theorem dX9_cut_7 : decode cX9_cut 7 = .ok (.aload_n 0, 1) := by decide +kernel
theorem dX9_cut_8 : decode cX9_cut 8 = .ok (.getfield 229, 3) := by decide +kernel
theorem dX9_cut_11 : decode cX9_cut 11 = .ok (.sipush 400, 3) := by decide +kernel
theorem dX9_cut_14 : decode cX9_cut 14 = .ok (.if_icmp .gt 280, 3) := by decide +kernel
theorem dX9_cut_17 : decode cX9_cut 17 = .ok (.aload_n 0, 1) := by decide +kernel
theorem dX9_cut_18 : decode cX9_cut 18 = .ok (.iload_n 1, 1) := by decide +kernel
theorem dX9_cut_19 : decode cX9_cut 19 = .ok (.invokevirtual 232, 3) := by decide +kernel
theorem dX9_cut_22 : decode cX9_cut 22 = .ok (.istore_n 2, 1) := by decide +kernel
theorem dX9_cut_23 : decode cX9_cut 23 = .ok (.iload_n 1, 1) := by decide +kernel
theorem dX9_cut_24 : decode cX9_cut 24 = .ok (.aload_n 0, 1) := by decide +kernel
theorem dX9_cut_25 : decode cX9_cut 25 = .ok (.getfield 220, 3) := by decide +kernel
theorem dX9_cut_28 : decode cX9_cut 28 = .ok (.if_icmp .lt 15, 3) := by decide +kernel
theorem dX9_cut_31 : decode cX9_cut 31 = .ok (.aload_n 0, 1) := by decide +kernel
theorem dX9_cut_32 : decode cX9_cut 32 = .ok (.iconst 0, 1) := by decide +kernel
theorem dX9_cut_33 : decode cX9_cut 33 = .ok (.aload_n 0, 1) := by decide +kernel
theorem dX9_cut_34 : decode cX9_cut 34 = .ok (.getfield 220, 3) := by decide +kernel
theorem dX9_cut_37 : decode cX9_cut 37 = .ok (.iconst 0, 1) := by decide +kernel
theorem dX9_cut_38 : decode cX9_cut 38 = .ok (.lconst 0, 1) := by decide +kernel
theorem dX9_cut_39 : decode cX9_cut 39 = .ok (.invokevirtual 236, 3) := by decide +kernel
theorem dX9_cut_42 : decode cX9_cut 42 = .ok (.return_, 1) := by decide +kernel
theorem dX9_cut_43 : decode cX9_cut 43 = .ok (.iload_n 2, 1) := by decide +kernel
theorem dX9_cut_44 : decode cX9_cut 44 = .ok (.bipush 9, 2) := by decide +kernel
theorem dX9_cut_46 : decode cX9_cut 46 = .ok (.if_icmp .eq 21, 3) := by decide +kernel
theorem dX9_cut_49 : decode cX9_cut 49 = .ok (.iload_n 2, 1) := by decide +kernel
theorem dX9_cut_50 : decode cX9_cut 50 = .ok (.bipush 10, 2) := by decide +kernel
theorem dX9_cut_52 : decode cX9_cut 52 = .ok (.if_icmp .eq 15, 3) := by decide +kernel
theorem dX9_cut_55 : decode cX9_cut 55 = .ok (.iload_n 2, 1) := by decide +kernel
theorem dX9_cut_56 : decode cX9_cut 56 = .ok (.bipush 13, 2) := by decide +kernel
theorem dX9_cut_58 : decode cX9_cut 58 = .ok (.if_icmp .eq 9, 3) := by decide +kernel
theorem dX9_cut_61 : decode cX9_cut 61 = .ok (.iload_n 2, 1) := by decide +kernel
theorem dX9_cut_62 : decode cX9_cut 62 = .ok (.bipush 32, 2) := by decide +kernel
theorem dX9_cut_64 : decode cX9_cut 64 = .ok (.if_icmp .ne 9, 3) := by decide +kernel
theorem dX9_cut_67 : decode cX9_cut 67 = .ok (.iinc 1 1, 3) := by decide +kernel
theorem dX9_cut_70 : decode cX9_cut 70 = .ok (.goto 221, 3) := by decide +kernel
theorem dX9_cut_73 : decode cX9_cut 73 = .ok (.iload_n 2, 1) := by decide +kernel
theorem dX9_cut_74 : decode cX9_cut 74 = .ok (.invokestatic 240, 3) := by decide +kernel
theorem dX9_cut_77 : decode cX9_cut 77 = .ok (.ifCond .eq 119, 3) := by decide +kernel
theorem dX9_cut_80 : decode cX9_cut 80 = .ok (.iconst 0, 1) := by decide +kernel
theorem dX9_cut_81 : decode cX9_cut 81 = .ok (.istore_n 3, 1) := by decide +kernel
theorem dX9_cut_82 : decode cX9_cut 82 = .ok (.lconst 0, 1) := by decide +kernel
theorem dX9_cut_83 : decode cX9_cut 83 = .ok (.lstore 4, 2) := by decide +kernel
theorem dX9_cut_85 : decode cX9_cut 85 = .ok (.aload_n 0, 1) := by decide +kernel
theorem dX9_cut_86 : decode cX9_cut 86 = .ok (.iload_n 1, 1) := by decide +kernel
theorem dX9_cut_87 : decode cX9_cut 87 = .ok (.iload_n 3, 1) := by decide +kernel
theorem dX9_cut_88 : decode cX9_cut 88 = .ok (.iadd, 1) := by decide +kernel
theorem dX9_cut_89 : decode cX9_cut 89 = .ok (.invokevirtual 232, 3) := by decide +kernel
theorem dX9_cut_92 : decode cX9_cut 92 = .ok (.invokestatic 240, 3) := by decide +kernel
theorem dX9_cut_95 : decode cX9_cut 95 = .ok (.ifCond .eq 29, 3) := by decide +kernel
theorem dX9_cut_98 : decode cX9_cut 98 = .ok (.iload_n 3, 1) := by decide +kernel
theorem dX9_cut_99 : decode cX9_cut 99 = .ok (.bipush 8, 2) := by decide +kernel
theorem dX9_cut_101 : decode cX9_cut 101 = .ok (.if_icmp .ge 17, 3) := by decide +kernel
theorem dX9_cut_104 : decode cX9_cut 104 = .ok (.lload 4, 2) := by decide +kernel
theorem dX9_cut_106 : decode cX9_cut 106 = .ok (.aload_n 0, 1) := by decide +kernel
theorem dX9_cut_107 : decode cX9_cut 107 = .ok (.iload_n 1, 1) := by decide +kernel
theorem dX9_cut_108 : decode cX9_cut 108 = .ok (.iload_n 3, 1) := by decide +kernel
theorem dX9_cut_109 : decode cX9_cut 109 = .ok (.iadd, 1) := by decide +kernel
theorem dX9_cut_110 : decode cX9_cut 110 = .ok (.invokevirtual 232, 3) := by decide +kernel
theorem dX9_cut_113 : decode cX9_cut 113 = .ok (.invokestatic 225, 3) := by decide +kernel
theorem dX9_cut_116 : decode cX9_cut 116 = .ok (.lstore 4, 2) := by decide +kernel
theorem dX9_cut_118 : decode cX9_cut 118 = .ok (.iinc 3 1, 3) := by decide +kernel
theorem dX9_cut_121 : decode cX9_cut 121 = .ok (.goto (-36), 3) := by decide +kernel
theorem dX9_cut_124 : decode cX9_cut 124 = .ok (.iload_n 3, 1) := by decide +kernel
theorem dX9_cut_125 : decode cX9_cut 125 = .ok (.bipush 8, 2) := by decide +kernel
theorem dX9_cut_127 : decode cX9_cut 127 = .ok (.if_icmp .le 7, 3) := by decide +kernel
theorem dX9_cut_130 : decode cX9_cut 130 = .ok (.iconst 3, 1) := by decide +kernel
theorem dX9_cut_131 : decode cX9_cut 131 = .ok (.goto 4, 3) := by decide +kernel
theorem dX9_cut_134 : decode cX9_cut 134 = .ok (.iconst 1, 1) := by decide +kernel
theorem dX9_cut_135 : decode cX9_cut 135 = .ok (.istore 6, 2) := by decide +kernel
theorem dX9_cut_137 : decode cX9_cut 137 = .ok (.iload_n 3, 1) := by decide +kernel
theorem dX9_cut_138 : decode cX9_cut 138 = .ok (.bipush 7, 2) := by decide +kernel
theorem dX9_cut_140 : decode cX9_cut 140 = .ok (.if_icmp .gt 39, 3) := by decide +kernel
theorem dX9_cut_143 : decode cX9_cut 143 = .ok (.iconst 0, 1) := by decide +kernel
theorem dX9_cut_144 : decode cX9_cut 144 = .ok (.istore 7, 2) := by decide +kernel
theorem dX9_cut_146 : decode cX9_cut 146 = .ok (.iload 7, 2) := by decide +kernel
theorem dX9_cut_148 : decode cX9_cut 148 = .ok (.bipush 12, 2) := by decide +kernel
theorem dX9_cut_150 : decode cX9_cut 150 = .ok (.if_icmp .ge 29, 3) := by decide +kernel
theorem dX9_cut_153 : decode cX9_cut 153 = .ok (.aload_n 0, 1) := by decide +kernel
theorem dX9_cut_154 : decode cX9_cut 154 = .ok (.getfield 34, 3) := by decide +kernel
theorem dX9_cut_157 : decode cX9_cut 157 = .ok (.iload 7, 2) := by decide +kernel
theorem dX9_cut_159 : decode cX9_cut 159 = .ok (.laload, 1) := by decide +kernel
theorem dX9_cut_160 : decode cX9_cut 160 = .ok (.lload 4, 2) := by decide +kernel
theorem dX9_cut_162 : decode cX9_cut 162 = .ok (.lcmp, 1) := by decide +kernel
theorem dX9_cut_163 : decode cX9_cut 163 = .ok (.ifCond .ne 10, 3) := by decide +kernel
theorem dX9_cut_166 : decode cX9_cut 166 = .ok (.bipush 20, 2) := by decide +kernel
theorem dX9_cut_168 : decode cX9_cut 168 = .ok (.iload 7, 2) := by decide +kernel
theorem dX9_cut_170 : decode cX9_cut 170 = .ok (.iadd, 1) := by decide +kernel
theorem dX9_cut_171 : decode cX9_cut 171 = .ok (.istore 6, 2) := by decide +kernel
theorem dX9_cut_173 : decode cX9_cut 173 = .ok (.iinc 7 1, 3) := by decide +kernel
theorem dX9_cut_176 : decode cX9_cut 176 = .ok (.goto (-30), 3) := by decide +kernel
theorem dX9_cut_179 : decode cX9_cut 179 = .ok (.aload_n 0, 1) := by decide +kernel
theorem dX9_cut_180 : decode cX9_cut 180 = .ok (.iload 6, 2) := by decide +kernel
theorem dX9_cut_182 : decode cX9_cut 182 = .ok (.iload_n 1, 1) := by decide +kernel
theorem dX9_cut_183 : decode cX9_cut 183 = .ok (.iconst 0, 1) := by decide +kernel
theorem dX9_cut_184 : decode cX9_cut 184 = .ok (.lload 4, 2) := by decide +kernel
theorem dX9_cut_186 : decode cX9_cut 186 = .ok (.invokevirtual 236, 3) := by decide +kernel
theorem dX9_cut_189 : decode cX9_cut 189 = .ok (.iload_n 1, 1) := by decide +kernel
theorem dX9_cut_190 : decode cX9_cut 190 = .ok (.iload_n 3, 1) := by decide +kernel
theorem dX9_cut_191 : decode cX9_cut 191 = .ok (.iadd, 1) := by decide +kernel
theorem dX9_cut_192 : decode cX9_cut 192 = .ok (.istore_n 1, 1) := by decide +kernel
theorem dX9_cut_193 : decode cX9_cut 193 = .ok (.goto 98, 3) := by decide +kernel
theorem dX9_cut_196 : decode cX9_cut 196 = .ok (.iload_n 2, 1) := by decide +kernel
theorem dX9_cut_197 : decode cX9_cut 197 = .ok (.invokestatic 244, 3) := by decide +kernel
theorem dX9_cut_200 : decode cX9_cut 200 = .ok (.ifCond .eq 75, 3) := by decide +kernel
theorem dX9_cut_203 : decode cX9_cut 203 = .ok (.iconst 0, 1) := by decide +kernel
theorem dX9_cut_204 : decode cX9_cut 204 = .ok (.istore_n 3, 1) := by decide +kernel
theorem dX9_cut_205 : decode cX9_cut 205 = .ok (.iconst 0, 1) := by decide +kernel
theorem dX9_cut_206 : decode cX9_cut 206 = .ok (.istore 4, 2) := by decide +kernel
theorem dX9_cut_208 : decode cX9_cut 208 = .ok (.aload_n 0, 1) := by decide +kernel
theorem dX9_cut_209 : decode cX9_cut 209 = .ok (.iload_n 1, 1) := by decide +kernel
theorem dX9_cut_210 : decode cX9_cut 210 = .ok (.iload_n 3, 1) := by decide +kernel
theorem dX9_cut_211 : decode cX9_cut 211 = .ok (.iadd, 1) := by decide +kernel
theorem dX9_cut_212 : decode cX9_cut 212 = .ok (.invokevirtual 232, 3) := by decide +kernel
theorem dX9_cut_215 : decode cX9_cut 215 = .ok (.invokestatic 244, 3) := by decide +kernel
theorem dX9_cut_218 : decode cX9_cut 218 = .ok (.ifCond .eq 32, 3) := by decide +kernel
theorem dX9_cut_221 : decode cX9_cut 221 = .ok (.iload_n 3, 1) := by decide +kernel
theorem dX9_cut_222 : decode cX9_cut 222 = .ok (.iconst 4, 1) := by decide +kernel
theorem dX9_cut_223 : decode cX9_cut 223 = .ok (.if_icmp .ge 21, 3) := by decide +kernel
theorem dX9_cut_226 : decode cX9_cut 226 = .ok (.bipush 10, 2) := by decide +kernel
theorem dX9_cut_228 : decode cX9_cut 228 = .ok (.iload 4, 2) := by decide +kernel
theorem dX9_cut_230 : decode cX9_cut 230 = .ok (.imul, 1) := by decide +kernel
theorem dX9_cut_231 : decode cX9_cut 231 = .ok (.aload_n 0, 1) := by decide +kernel
theorem dX9_cut_232 : decode cX9_cut 232 = .ok (.iload_n 1, 1) := by decide +kernel
theorem dX9_cut_233 : decode cX9_cut 233 = .ok (.iload_n 3, 1) := by decide +kernel
theorem dX9_cut_234 : decode cX9_cut 234 = .ok (.iadd, 1) := by decide +kernel
theorem dX9_cut_235 : decode cX9_cut 235 = .ok (.invokevirtual 232, 3) := by decide +kernel
theorem dX9_cut_238 : decode cX9_cut 238 = .ok (.iadd, 1) := by decide +kernel
theorem dX9_cut_239 : decode cX9_cut 239 = .ok (.bipush 48, 2) := by decide +kernel
theorem dX9_cut_241 : decode cX9_cut 241 = .ok (.isub, 1) := by decide +kernel
theorem dX9_cut_242 : decode cX9_cut 242 = .ok (.istore 4, 2) := by decide +kernel
theorem dX9_cut_244 : decode cX9_cut 244 = .ok (.iinc 3 1, 3) := by decide +kernel
theorem dX9_cut_247 : decode cX9_cut 247 = .ok (.goto (-39), 3) := by decide +kernel
theorem dX9_cut_250 : decode cX9_cut 250 = .ok (.aload_n 0, 1) := by decide +kernel
theorem dX9_cut_251 : decode cX9_cut 251 = .ok (.iload_n 3, 1) := by decide +kernel
theorem dX9_cut_252 : decode cX9_cut 252 = .ok (.iconst 4, 1) := by decide +kernel
theorem dX9_cut_253 : decode cX9_cut 253 = .ok (.if_icmp .le 7, 3) := by decide +kernel
theorem dX9_cut_256 : decode cX9_cut 256 = .ok (.iconst 3, 1) := by decide +kernel
theorem dX9_cut_257 : decode cX9_cut 257 = .ok (.goto 4, 3) := by decide +kernel
theorem dX9_cut_260 : decode cX9_cut 260 = .ok (.iconst 2, 1) := by decide +kernel
theorem dX9_cut_261 : decode cX9_cut 261 = .ok (.iload_n 1, 1) := by decide +kernel
theorem dX9_cut_262 : decode cX9_cut 262 = .ok (.iload 4, 2) := by decide +kernel
theorem dX9_cut_264 : decode cX9_cut 264 = .ok (.lconst 0, 1) := by decide +kernel
theorem dX9_cut_265 : decode cX9_cut 265 = .ok (.invokevirtual 236, 3) := by decide +kernel
theorem dX9_cut_268 : decode cX9_cut 268 = .ok (.iload_n 1, 1) := by decide +kernel
theorem dX9_cut_269 : decode cX9_cut 269 = .ok (.iload_n 3, 1) := by decide +kernel
theorem dX9_cut_270 : decode cX9_cut 270 = .ok (.iadd, 1) := by decide +kernel
theorem dX9_cut_271 : decode cX9_cut 271 = .ok (.istore_n 1, 1) := by decide +kernel
theorem dX9_cut_272 : decode cX9_cut 272 = .ok (.goto 19, 3) := by decide +kernel
theorem dX9_cut_275 : decode cX9_cut 275 = .ok (.iload_n 1, 1) := by decide +kernel
theorem dX9_cut_276 : decode cX9_cut 276 = .ok (.aload_n 0, 1) := by decide +kernel
theorem dX9_cut_277 : decode cX9_cut 277 = .ok (.iload_n 1, 1) := by decide +kernel
theorem dX9_cut_278 : decode cX9_cut 278 = .ok (.iload_n 2, 1) := by decide +kernel
theorem dX9_cut_279 : decode cX9_cut 279 = .ok (.aload_n 0, 1) := by decide +kernel
theorem dX9_cut_280 : decode cX9_cut 280 = .ok (.iload_n 1, 1) := by decide +kernel
theorem dX9_cut_281 : decode cX9_cut 281 = .ok (.iconst 1, 1) := by decide +kernel
theorem dX9_cut_282 : decode cX9_cut 282 = .ok (.iadd, 1) := by decide +kernel
theorem dX9_cut_283 : decode cX9_cut 283 = .ok (.invokevirtual 232, 3) := by decide +kernel
theorem dX9_cut_286 : decode cX9_cut 286 = .ok (.invokevirtual 247, 3) := by decide +kernel
theorem dX9_cut_289 : decode cX9_cut 289 = .ok (.iadd, 1) := by decide +kernel
theorem dX9_cut_290 : decode cX9_cut 290 = .ok (.istore_n 1, 1) := by decide +kernel
theorem dX9_cut_291 : decode cX9_cut 291 = .ok (.goto (-284), 3) := by decide +kernel
theorem dX9_cut_294 : decode cX9_cut 294 = .ok (.return_, 1) := by decide +kernel
theorem dX9_sign_0 : decode cX9_sign 0 = .ok (.iload_n 3, 1) := by decide +kernel
theorem dX9_sign_1 : decode cX9_sign 1 = .ok (.bipush 61, 2) := by decide +kernel
theorem dX9_sign_3 : decode cX9_sign 3 = .ok (.if_icmp .eq 7, 3) := by decide +kernel
theorem dX9_sign_6 : decode cX9_sign 6 = .ok (.iconst 0, 1) := by decide +kernel
theorem dX9_sign_7 : decode cX9_sign 7 = .ok (.goto 37, 3) := by decide +kernel
theorem dX9_sign_10 : decode cX9_sign 10 = .ok (.iload_n 2, 1) := by decide +kernel
theorem dX9_sign_11 : decode cX9_sign 11 = .ok (.bipush 61, 2) := by decide +kernel
theorem dX9_sign_13 : decode cX9_sign 13 = .ok (.if_icmp .ne 8, 3) := by decide +kernel
theorem dX9_sign_16 : decode cX9_sign 16 = .ok (.bipush 11, 2) := by decide +kernel
theorem dX9_sign_18 : decode cX9_sign 18 = .ok (.goto 26, 3) := by decide +kernel
theorem dX9_sign_21 : decode cX9_sign 21 = .ok (.iload_n 2, 1) := by decide +kernel
theorem dX9_sign_22 : decode cX9_sign 22 = .ok (.bipush 33, 2) := by decide +kernel
theorem dX9_sign_24 : decode cX9_sign 24 = .ok (.if_icmp .ne 8, 3) := by decide +kernel
theorem dX9_sign_27 : decode cX9_sign 27 = .ok (.bipush 12, 2) := by decide +kernel
theorem dX9_sign_29 : decode cX9_sign 29 = .ok (.goto 15, 3) := by decide +kernel
theorem dX9_sign_32 : decode cX9_sign 32 = .ok (.iload_n 2, 1) := by decide +kernel
theorem dX9_sign_33 : decode cX9_sign 33 = .ok (.bipush 60, 2) := by decide +kernel
theorem dX9_sign_35 : decode cX9_sign 35 = .ok (.if_icmp .ne 8, 3) := by decide +kernel
theorem dX9_sign_38 : decode cX9_sign 38 = .ok (.bipush 14, 2) := by decide +kernel
theorem dX9_sign_40 : decode cX9_sign 40 = .ok (.goto 4, 3) := by decide +kernel
theorem dX9_sign_43 : decode cX9_sign 43 = .ok (.iconst 0, 1) := by decide +kernel
theorem dX9_sign_44 : decode cX9_sign 44 = .ok (.istore 4, 2) := by decide +kernel
theorem dX9_sign_46 : decode cX9_sign 46 = .ok (.iconst 3, 1) := by decide +kernel
theorem dX9_sign_47 : decode cX9_sign 47 = .ok (.istore 5, 2) := by decide +kernel
theorem dX9_sign_49 : decode cX9_sign 49 = .ok (.iload 4, 2) := by decide +kernel
theorem dX9_sign_51 : decode cX9_sign 51 = .ok (.ifCond .le 10, 3) := by decide +kernel
theorem dX9_sign_54 : decode cX9_sign 54 = .ok (.iload 4, 2) := by decide +kernel
theorem dX9_sign_56 : decode cX9_sign 56 = .ok (.istore 5, 2) := by decide +kernel
theorem dX9_sign_58 : decode cX9_sign 58 = .ok (.goto 90, 3) := by decide +kernel
theorem dX9_sign_61 : decode cX9_sign 61 = .ok (.iload_n 2, 1) := by decide +kernel
theorem dX9_sign_62 : decode cX9_sign 62 = .ok (.bipush 59, 2) := by decide +kernel
theorem dX9_sign_64 : decode cX9_sign 64 = .ok (.if_icmp .ne 9, 3) := by decide +kernel
theorem dX9_sign_67 : decode cX9_sign 67 = .ok (.iconst 4, 1) := by decide +kernel
theorem dX9_sign_68 : decode cX9_sign 68 = .ok (.istore 5, 2) := by decide +kernel
theorem dX9_sign_70 : decode cX9_sign 70 = .ok (.goto 78, 3) := by decide +kernel
theorem dX9_sign_73 : decode cX9_sign 73 = .ok (.iload_n 2, 1) := by decide +kernel
theorem dX9_sign_74 : decode cX9_sign 74 = .ok (.bipush 40, 2) := by decide +kernel
theorem dX9_sign_76 : decode cX9_sign 76 = .ok (.if_icmp .ne 10, 3) := by decide +kernel
theorem dX9_sign_79 : decode cX9_sign 79 = .ok (.bipush 6, 2) := by decide +kernel
theorem dX9_sign_81 : decode cX9_sign 81 = .ok (.istore 5, 2) := by decide +kernel
theorem dX9_sign_83 : decode cX9_sign 83 = .ok (.goto 65, 3) := by decide +kernel
theorem dX9_sign_86 : decode cX9_sign 86 = .ok (.iload_n 2, 1) := by decide +kernel
theorem dX9_sign_87 : decode cX9_sign 87 = .ok (.bipush 41, 2) := by decide +kernel
theorem dX9_sign_89 : decode cX9_sign 89 = .ok (.if_icmp .ne 10, 3) := by decide +kernel
theorem dX9_sign_92 : decode cX9_sign 92 = .ok (.bipush 7, 2) := by decide +kernel
theorem dX9_sign_94 : decode cX9_sign 94 = .ok (.istore 5, 2) := by decide +kernel
theorem dX9_sign_96 : decode cX9_sign 96 = .ok (.goto 52, 3) := by decide +kernel
theorem dX9_sign_99 : decode cX9_sign 99 = .ok (.iload_n 2, 1) := by decide +kernel
theorem dX9_sign_100 : decode cX9_sign 100 = .ok (.bipush 43, 2) := by decide +kernel
theorem dX9_sign_102 : decode cX9_sign 102 = .ok (.if_icmp .ne 10, 3) := by decide +kernel
theorem dX9_sign_105 : decode cX9_sign 105 = .ok (.bipush 8, 2) := by decide +kernel
theorem dX9_sign_107 : decode cX9_sign 107 = .ok (.istore 5, 2) := by decide +kernel
theorem dX9_sign_109 : decode cX9_sign 109 = .ok (.goto 39, 3) := by decide +kernel
theorem dX9_sign_112 : decode cX9_sign 112 = .ok (.iload_n 2, 1) := by decide +kernel
theorem dX9_sign_113 : decode cX9_sign 113 = .ok (.bipush 45, 2) := by decide +kernel
theorem dX9_sign_115 : decode cX9_sign 115 = .ok (.if_icmp .ne 10, 3) := by decide +kernel
theorem dX9_sign_118 : decode cX9_sign 118 = .ok (.bipush 9, 2) := by decide +kernel
theorem dX9_sign_120 : decode cX9_sign 120 = .ok (.istore 5, 2) := by decide +kernel
theorem dX9_sign_122 : decode cX9_sign 122 = .ok (.goto 26, 3) := by decide +kernel
theorem dX9_sign_125 : decode cX9_sign 125 = .ok (.iload_n 2, 1) := by decide +kernel
theorem dX9_sign_126 : decode cX9_sign 126 = .ok (.bipush 42, 2) := by decide +kernel
theorem dX9_sign_128 : decode cX9_sign 128 = .ok (.if_icmp .ne 10, 3) := by decide +kernel
theorem dX9_sign_131 : decode cX9_sign 131 = .ok (.bipush 10, 2) := by decide +kernel
theorem dX9_sign_133 : decode cX9_sign 133 = .ok (.istore 5, 2) := by decide +kernel
theorem dX9_sign_135 : decode cX9_sign 135 = .ok (.goto 13, 3) := by decide +kernel
theorem dX9_sign_138 : decode cX9_sign 138 = .ok (.iload_n 2, 1) := by decide +kernel
theorem dX9_sign_139 : decode cX9_sign 139 = .ok (.bipush 60, 2) := by decide +kernel
theorem dX9_sign_141 : decode cX9_sign 141 = .ok (.if_icmp .ne 7, 3) := by decide +kernel
theorem dX9_sign_144 : decode cX9_sign 144 = .ok (.bipush 13, 2) := by decide +kernel
theorem dX9_sign_146 : decode cX9_sign 146 = .ok (.istore 5, 2) := by decide +kernel
theorem dX9_sign_148 : decode cX9_sign 148 = .ok (.aload_n 0, 1) := by decide +kernel
theorem dX9_sign_149 : decode cX9_sign 149 = .ok (.iload 5, 2) := by decide +kernel
theorem dX9_sign_151 : decode cX9_sign 151 = .ok (.iload_n 1, 1) := by decide +kernel
theorem dX9_sign_152 : decode cX9_sign 152 = .ok (.iconst 0, 1) := by decide +kernel
theorem dX9_sign_153 : decode cX9_sign 153 = .ok (.lconst 0, 1) := by decide +kernel
theorem dX9_sign_154 : decode cX9_sign 154 = .ok (.invokevirtual 236, 3) := by decide +kernel
theorem dX9_sign_157 : decode cX9_sign 157 = .ok (.iload 4, 2) := by decide +kernel
theorem dX9_sign_159 : decode cX9_sign 159 = .ok (.ifCond .le 7, 3) := by decide +kernel
theorem dX9_sign_162 : decode cX9_sign 162 = .ok (.iconst 2, 1) := by decide +kernel
theorem dX9_sign_163 : decode cX9_sign 163 = .ok (.goto 4, 3) := by decide +kernel
theorem dX9_sign_166 : decode cX9_sign 166 = .ok (.iconst 1, 1) := by decide +kernel
theorem dX9_sign_167 : decode cX9_sign 167 = .ok (.ireturn, 1) := by decide +kernel
theorem dX9_is_0 : decode cX9_is 0 = .ok (.aload_n 0, 1) := by decide +kernel
theorem dX9_is_1 : decode cX9_is 1 = .ok (.getfield 251, 3) := by decide +kernel
theorem dX9_is_4 : decode cX9_is 4 = .ok (.ifCond .ne 20, 3) := by decide +kernel
theorem dX9_is_7 : decode cX9_is 7 = .ok (.aload_n 0, 1) := by decide +kernel
theorem dX9_is_8 : decode cX9_is 8 = .ok (.getfield 20, 3) := by decide +kernel
theorem dX9_is_11 : decode cX9_is 11 = .ok (.aload_n 0, 1) := by decide +kernel
theorem dX9_is_12 : decode cX9_is 12 = .ok (.getfield 254, 3) := by decide +kernel
theorem dX9_is_15 : decode cX9_is 15 = .ok (.iaload, 1) := by decide +kernel
theorem dX9_is_16 : decode cX9_is 16 = .ok (.iload_n 1, 1) := by decide +kernel
theorem dX9_is_17 : decode cX9_is 17 = .ok (.if_icmp .ne 7, 3) := by decide +kernel
theorem dX9_is_20 : decode cX9_is 20 = .ok (.iconst 1, 1) := by decide +kernel
theorem dX9_is_21 : decode cX9_is 21 = .ok (.goto 4, 3) := by decide +kernel
theorem dX9_is_24 : decode cX9_is 24 = .ok (.iconst 0, 1) := by decide +kernel
theorem dX9_is_25 : decode cX9_is 25 = .ok (.ireturn, 1) := by decide +kernel
theorem dX9_fail_0 : decode cX9_fail 0 = .ok (.aload_n 0, 1) := by decide +kernel
theorem dX9_fail_1 : decode cX9_fail 1 = .ok (.getfield 251, 3) := by decide +kernel
theorem dX9_fail_4 : decode cX9_fail 4 = .ok (.ifCond .le 4, 3) := by decide +kernel
theorem dX9_fail_7 : decode cX9_fail 7 = .ok (.return_, 1) := by decide +kernel
theorem dX9_fail_8 : decode cX9_fail 8 = .ok (.aload_n 0, 1) := by decide +kernel
theorem dX9_fail_9 : decode cX9_fail 9 = .ok (.iload_n 1, 1) := by decide +kernel
theorem dX9_fail_10 : decode cX9_fail 10 = .ok (.putfield 251, 3) := by decide +kernel
theorem dX9_fail_13 : decode cX9_fail 13 = .ok (.aload_n 0, 1) := by decide +kernel
theorem dX9_fail_14 : decode cX9_fail 14 = .ok (.aload_n 0, 1) := by decide +kernel
theorem dX9_fail_15 : decode cX9_fail 15 = .ok (.getfield 24, 3) := by decide +kernel
theorem dX9_fail_18 : decode cX9_fail 18 = .ok (.aload_n 0, 1) := by decide +kernel
theorem dX9_fail_19 : decode cX9_fail 19 = .ok (.getfield 254, 3) := by decide +kernel
theorem dX9_fail_22 : decode cX9_fail 22 = .ok (.iaload, 1) := by decide +kernel
theorem dX9_fail_23 : decode cX9_fail 23 = .ok (.putfield 257, 3) := by decide +kernel
theorem dX9_fail_26 : decode cX9_fail 26 = .ok (.return_, 1) := by decide +kernel
theorem dX9_wrong_0 : decode cX9_wrong 0 = .ok (.aload_n 0, 1) := by decide +kernel
theorem dX9_wrong_1 : decode cX9_wrong 1 = .ok (.getfield 24, 3) := by decide +kernel
theorem dX9_wrong_4 : decode cX9_wrong 4 = .ok (.iload_n 2, 1) := by decide +kernel
theorem dX9_wrong_5 : decode cX9_wrong 5 = .ok (.iaload, 1) := by decide +kernel
theorem dX9_wrong_6 : decode cX9_wrong 6 = .ok (.istore_n 3, 1) := by decide +kernel
theorem dX9_wrong_7 : decode cX9_wrong 7 = .ok (.aload_n 0, 1) := by decide +kernel
theorem dX9_wrong_8 : decode cX9_wrong 8 = .ok (.getfield 251, 3) := by decide +kernel
theorem dX9_wrong_11 : decode cX9_wrong 11 = .ok (.ifCond .gt 34, 3) := by decide +kernel
theorem dX9_wrong_14 : decode cX9_wrong 14 = .ok (.aload_n 0, 1) := by decide +kernel
theorem dX9_wrong_15 : decode cX9_wrong 15 = .ok (.getfield 260, 3) := by decide +kernel
theorem dX9_wrong_18 : decode cX9_wrong 18 = .ok (.ifCond .eq 28, 3) := by decide +kernel
theorem dX9_wrong_21 : decode cX9_wrong 21 = .ok (.iload_n 3, 1) := by decide +kernel
theorem dX9_wrong_22 : decode cX9_wrong 22 = .ok (.aload_n 0, 1) := by decide +kernel
theorem dX9_wrong_23 : decode cX9_wrong 23 = .ok (.getfield 263, 3) := by decide +kernel
theorem dX9_wrong_26 : decode cX9_wrong 26 = .ok (.if_icmp .gt 19, 3) := by decide +kernel
theorem dX9_wrong_29 : decode cX9_wrong 29 = .ok (.iload_n 3, 1) := by decide +kernel
theorem dX9_wrong_30 : decode cX9_wrong 30 = .ok (.aload_n 0, 1) := by decide +kernel
theorem dX9_wrong_31 : decode cX9_wrong 31 = .ok (.getfield 263, 3) := by decide +kernel
theorem dX9_wrong_34 : decode cX9_wrong 34 = .ok (.if_icmp .ne 12, 3) := by decide +kernel
theorem dX9_wrong_37 : decode cX9_wrong 37 = .ok (.iload_n 1, 1) := by decide +kernel
theorem dX9_wrong_38 : decode cX9_wrong 38 = .ok (.aload_n 0, 1) := by decide +kernel
theorem dX9_wrong_39 : decode cX9_wrong 39 = .ok (.getfield 260, 3) := by decide +kernel
theorem dX9_wrong_42 : decode cX9_wrong 42 = .ok (.if_icmp .lt 4, 3) := by decide +kernel
theorem dX9_wrong_45 : decode cX9_wrong 45 = .ok (.return_, 1) := by decide +kernel
theorem dX9_wrong_46 : decode cX9_wrong 46 = .ok (.aload_n 0, 1) := by decide +kernel
theorem dX9_wrong_47 : decode cX9_wrong 47 = .ok (.iload_n 1, 1) := by decide +kernel
theorem dX9_wrong_48 : decode cX9_wrong 48 = .ok (.putfield 260, 3) := by decide +kernel
theorem dX9_wrong_51 : decode cX9_wrong 51 = .ok (.aload_n 0, 1) := by decide +kernel
theorem dX9_wrong_52 : decode cX9_wrong 52 = .ok (.iload_n 3, 1) := by decide +kernel
theorem dX9_wrong_53 : decode cX9_wrong 53 = .ok (.putfield 263, 3) := by decide +kernel
theorem dX9_wrong_56 : decode cX9_wrong 56 = .ok (.return_, 1) := by decide +kernel
theorem dX9_next_0 : decode cX9_next 0 = .ok (.aload_n 0, 1) := by decide +kernel
theorem dX9_next_1 : decode cX9_next 1 = .ok (.getfield 254, 3) := by decide +kernel
theorem dX9_next_4 : decode cX9_next 4 = .ok (.sipush 400, 3) := by decide +kernel
theorem dX9_next_7 : decode cX9_next 7 = .ok (.if_icmp .ne 11, 3) := by decide +kernel
theorem dX9_next_10 : decode cX9_next 10 = .ok (.aload_n 0, 1) := by decide +kernel
theorem dX9_next_11 : decode cX9_next 11 = .ok (.iconst 2, 1) := by decide +kernel
theorem dX9_next_12 : decode cX9_next 12 = .ok (.invokevirtual 266, 3) := by decide +kernel
theorem dX9_next_15 : decode cX9_next 15 = .ok (.goto 13, 3) := by decide +kernel
theorem dX9_next_18 : decode cX9_next 18 = .ok (.aload_n 0, 1) := by decide +kernel
theorem dX9_next_19 : decode cX9_next 19 = .ok (.dup, 1) := by decide +kernel
theorem dX9_next_20 : decode cX9_next 20 = .ok (.getfield 254, 3) := by decide +kernel
theorem dX9_next_23 : decode cX9_next 23 = .ok (.iconst 1, 1) := by decide +kernel
theorem dX9_next_24 : decode cX9_next 24 = .ok (.iadd, 1) := by decide +kernel
theorem dX9_next_25 : decode cX9_next 25 = .ok (.putfield 254, 3) := by decide +kernel
theorem dX9_next_28 : decode cX9_next 28 = .ok (.return_, 1) := by decide +kernel
theorem dX9_must_0 : decode cX9_must 0 = .ok (.aload_n 0, 1) := by decide +kernel
theorem dX9_must_1 : decode cX9_must 1 = .ok (.iload_n 1, 1) := by decide +kernel
theorem dX9_must_2 : decode cX9_must 2 = .ok (.invokevirtual 269, 3) := by decide +kernel
theorem dX9_must_5 : decode cX9_must 5 = .ok (.ifCond .eq 10, 3) := by decide +kernel
theorem dX9_must_8 : decode cX9_must 8 = .ok (.aload_n 0, 1) := by decide +kernel
theorem dX9_must_9 : decode cX9_must 9 = .ok (.invokevirtual 272, 3) := by decide +kernel
theorem dX9_must_12 : decode cX9_must 12 = .ok (.goto 8, 3) := by decide +kernel
theorem dX9_must_15 : decode cX9_must 15 = .ok (.aload_n 0, 1) := by decide +kernel
theorem dX9_must_16 : decode cX9_must 16 = .ok (.iconst 1, 1) := by decide +kernel
theorem dX9_must_17 : decode cX9_must 17 = .ok (.invokevirtual 266, 3) := by decide +kernel
theorem dX9_must_20 : decode cX9_must 20 = .ok (.return_, 1) := by decide +kernel
theorem dX9_read_0 : decode cX9_read 0 = .ok (.iload_n 1, 1) := by decide +kernel
theorem dX9_read_1 : decode cX9_read 1 = .ok (.ifCond .lt 8, 3) := by decide +kernel
theorem dX9_read_4 : decode cX9_read 4 = .ok (.iload_n 1, 1) := by decide +kernel
theorem dX9_read_5 : decode cX9_read 5 = .ok (.iconst 1, 1) := by decide +kernel
theorem dX9_read_6 : decode cX9_read 6 = .ok (.if_icmp .le 5, 3) := by decide +kernel
theorem dX9_read_9 : decode cX9_read 9 = .ok (.iconst (-1), 1) := by decide +kernel
theorem dX9_read_10 : decode cX9_read 10 = .ok (.ireturn, 1) := by decide +kernel
theorem dX9_read_11 : decode cX9_read 11 = .ok (.aload_n 0, 1) := by decide +kernel
theorem dX9_read_12 : decode cX9_read 12 = .ok (.aload_n 0, 1) := by decide +kernel
theorem dX9_read_13 : decode cX9_read 13 = .ok (.getfield 213, 3) := by decide +kernel
theorem dX9_read_16 : decode cX9_read 16 = .ok (.putfield 220, 3) := by decide +kernel
theorem dX9_read_19 : decode cX9_read 19 = .ok (.iconst 0, 1) := by decide +kernel
theorem dX9_read_20 : decode cX9_read 20 = .ok (.istore_n 2, 1) := by decide +kernel
theorem dX9_read_21 : decode cX9_read 21 = .ok (.iload_n 2, 1) := by decide +kernel
theorem dX9_read_22 : decode cX9_read 22 = .ok (.aload_n 0, 1) := by decide +kernel
theorem dX9_read_23 : decode cX9_read 23 = .ok (.getfield 220, 3) := by decide +kernel
theorem dX9_read_26 : decode cX9_read 26 = .ok (.if_icmp .ge 21, 3) := by decide +kernel
theorem dX9_read_29 : decode cX9_read 29 = .ok (.aload_n 0, 1) := by decide +kernel
theorem dX9_read_30 : decode cX9_read 30 = .ok (.getfield 17, 3) := by decide +kernel
theorem dX9_read_33 : decode cX9_read 33 = .ok (.iload_n 2, 1) := by decide +kernel
theorem dX9_read_34 : decode cX9_read 34 = .ok (.aload_n 0, 1) := by decide +kernel
theorem dX9_read_35 : decode cX9_read 35 = .ok (.getfield 13, 3) := by decide +kernel
theorem dX9_read_38 : decode cX9_read 38 = .ok (.iload_n 2, 1) := by decide +kernel
theorem dX9_read_39 : decode cX9_read 39 = .ok (.baload, 1) := by decide +kernel
theorem dX9_read_40 : decode cX9_read 40 = .ok (.bastore, 1) := by decide +kernel
theorem dX9_read_41 : decode cX9_read 41 = .ok (.iinc 2 1, 3) := by decide +kernel
theorem dX9_read_44 : decode cX9_read 44 = .ok (.goto (-23), 3) := by decide +kernel
theorem dX9_read_47 : decode cX9_read 47 = .ok (.aload_n 0, 1) := by decide +kernel
theorem dX9_read_48 : decode cX9_read 48 = .ok (.iconst 0, 1) := by decide +kernel
theorem dX9_read_49 : decode cX9_read 49 = .ok (.putfield 213, 3) := by decide +kernel
theorem dX9_read_52 : decode cX9_read 52 = .ok (.aload_n 0, 1) := by decide +kernel
theorem dX9_read_53 : decode cX9_read 53 = .ok (.invokevirtual 275, 3) := by decide +kernel
theorem dX9_read_56 : decode cX9_read 56 = .ok (.aload_n 0, 1) := by decide +kernel
theorem dX9_read_57 : decode cX9_read 57 = .ok (.iconst 0, 1) := by decide +kernel
theorem dX9_read_58 : decode cX9_read 58 = .ok (.putfield 254, 3) := by decide +kernel
theorem dX9_read_61 : decode cX9_read 61 = .ok (.aload_n 0, 1) := by decide +kernel
theorem dX9_read_62 : decode cX9_read 62 = .ok (.iconst 0, 1) := by decide +kernel
theorem dX9_read_63 : decode cX9_read 63 = .ok (.putfield 278, 3) := by decide +kernel
theorem dX9_read_66 : decode cX9_read 66 = .ok (.aload_n 0, 1) := by decide +kernel
theorem dX9_read_67 : decode cX9_read 67 = .ok (.iconst 0, 1) := by decide +kernel
theorem dX9_read_68 : decode cX9_read 68 = .ok (.putfield 251, 3) := by decide +kernel
theorem dX9_read_71 : decode cX9_read 71 = .ok (.aload_n 0, 1) := by decide +kernel
theorem dX9_read_72 : decode cX9_read 72 = .ok (.iconst 0, 1) := by decide +kernel
theorem dX9_read_73 : decode cX9_read 73 = .ok (.putfield 260, 3) := by decide +kernel
theorem dX9_read_76 : decode cX9_read 76 = .ok (.aload_n 0, 1) := by decide +kernel
theorem dX9_read_77 : decode cX9_read 77 = .ok (.iconst 2, 1) := by decide +kernel
theorem dX9_read_78 : decode cX9_read 78 = .ok (.iload_n 1, 1) := by decide +kernel
theorem dX9_read_79 : decode cX9_read 79 = .ok (.imul, 1) := by decide +kernel
theorem dX9_read_80 : decode cX9_read 80 = .ok (.iconst 1, 1) := by decide +kernel
theorem dX9_read_81 : decode cX9_read 81 = .ok (.iadd, 1) := by decide +kernel
theorem dX9_read_82 : decode cX9_read 82 = .ok (.aload_n 0, 1) := by decide +kernel
theorem dX9_read_83 : decode cX9_read 83 = .ok (.getfield 40, 3) := by decide +kernel
theorem dX9_read_86 : decode cX9_read 86 = .ok (.iload_n 1, 1) := by decide +kernel
theorem dX9_read_87 : decode cX9_read 87 = .ok (.iaload, 1) := by decide +kernel
theorem dX9_read_88 : decode cX9_read 88 = .ok (.isub, 1) := by decide +kernel
theorem dX9_read_89 : decode cX9_read 89 = .ok (.putfield 281, 3) := by decide +kernel
theorem dX9_read_92 : decode cX9_read 92 = .ok (.aload_n 0, 1) := by decide +kernel
theorem dX9_read_93 : decode cX9_read 93 = .ok (.getfield 43, 3) := by decide +kernel
theorem dX9_read_96 : decode cX9_read 96 = .ok (.aload_n 0, 1) := by decide +kernel
theorem dX9_read_97 : decode cX9_read 97 = .ok (.getfield 281, 3) := by decide +kernel
theorem dX9_read_100 : decode cX9_read 100 = .ok (.iconst 0, 1) := by decide +kernel
theorem dX9_read_101 : decode cX9_read 101 = .ok (.iastore, 1) := by decide +kernel
theorem dX9_read_102 : decode cX9_read 102 = .ok (.aload_n 0, 1) := by decide +kernel
theorem dX9_read_103 : decode cX9_read 103 = .ok (.getfield 58, 3) := by decide +kernel
theorem dX9_read_106 : decode cX9_read 106 = .ok (.aload_n 0, 1) := by decide +kernel
theorem dX9_read_107 : decode cX9_read 107 = .ok (.getfield 281, 3) := by decide +kernel
theorem dX9_read_110 : decode cX9_read 110 = .ok (.iconst 0, 1) := by decide +kernel
theorem dX9_read_111 : decode cX9_read 111 = .ok (.iastore, 1) := by decide +kernel
theorem dX9_read_112 : decode cX9_read 112 = .ok (.aload_n 0, 1) := by decide +kernel
theorem dX9_read_113 : decode cX9_read 113 = .ok (.sipush 500, 3) := by decide +kernel
theorem dX9_read_116 : decode cX9_read 116 = .ok (.aload_n 0, 1) := by decide +kernel
theorem dX9_read_117 : decode cX9_read 117 = .ok (.getfield 281, 3) := by decide +kernel
theorem dX9_read_120 : decode cX9_read 120 = .ok (.imul, 1) := by decide +kernel
theorem dX9_read_121 : decode cX9_read 121 = .ok (.putfield 284, 3) := by decide +kernel
theorem dX9_read_124 : decode cX9_read 124 = .ok (.aload_n 0, 1) := by decide +kernel
theorem dX9_read_125 : decode cX9_read 125 = .ok (.getfield 251, 3) := by decide +kernel
theorem dX9_read_128 : decode cX9_read 128 = .ok (.ifCond .ne 18, 3) := by decide +kernel
theorem dX9_read_131 : decode cX9_read 131 = .ok (.aload_n 0, 1) := by decide +kernel
theorem dX9_read_132 : decode cX9_read 132 = .ok (.iconst 0, 1) := by decide +kernel
theorem dX9_read_133 : decode cX9_read 133 = .ok (.invokevirtual 269, 3) := by decide +kernel
theorem dX9_read_136 : decode cX9_read 136 = .ok (.ifCond .ne 10, 3) := by decide +kernel
theorem dX9_read_139 : decode cX9_read 139 = .ok (.aload_n 0, 1) := by decide +kernel
theorem dX9_read_140 : decode cX9_read 140 = .ok (.invokevirtual 287, 3) := by decide +kernel
theorem dX9_read_143 : decode cX9_read 143 = .ok (.goto (-19), 3) := by decide +kernel
theorem dX9_read_146 : decode cX9_read 146 = .ok (.aload_n 0, 1) := by decide +kernel
theorem dX9_read_147 : decode cX9_read 147 = .ok (.aload_n 0, 1) := by decide +kernel
theorem dX9_read_148 : decode cX9_read 148 = .ok (.getfield 251, 3) := by decide +kernel
theorem dX9_read_151 : decode cX9_read 151 = .ok (.ifCond .le 10, 3) := by decide +kernel
theorem dX9_read_154 : decode cX9_read 154 = .ok (.aload_n 0, 1) := by decide +kernel
theorem dX9_read_155 : decode cX9_read 155 = .ok (.getfield 257, 3) := by decide +kernel
theorem dX9_read_158 : decode cX9_read 158 = .ok (.goto 18, 3) := by decide +kernel
theorem dX9_read_161 : decode cX9_read 161 = .ok (.aload_n 0, 1) := by decide +kernel
theorem dX9_read_162 : decode cX9_read 162 = .ok (.getfield 260, 3) := by decide +kernel
theorem dX9_read_165 : decode cX9_read 165 = .ok (.ifCond .le 10, 3) := by decide +kernel
theorem dX9_read_168 : decode cX9_read 168 = .ok (.aload_n 0, 1) := by decide +kernel
theorem dX9_read_169 : decode cX9_read 169 = .ok (.getfield 263, 3) := by decide +kernel
theorem dX9_read_172 : decode cX9_read 172 = .ok (.goto 4, 3) := by decide +kernel
theorem dX9_read_175 : decode cX9_read 175 = .ok (.iconst (-1), 1) := by decide +kernel
theorem dX9_read_176 : decode cX9_read 176 = .ok (.putfield 37, 3) := by decide +kernel
theorem dX9_read_179 : decode cX9_read 179 = .ok (.aload_n 0, 1) := by decide +kernel
theorem dX9_read_180 : decode cX9_read 180 = .ok (.getfield 251, 3) := by decide +kernel
theorem dX9_read_183 : decode cX9_read 183 = .ok (.ifCond .le 8, 3) := by decide +kernel
theorem dX9_read_186 : decode cX9_read 186 = .ok (.aload_n 0, 1) := by decide +kernel
theorem dX9_read_187 : decode cX9_read 187 = .ok (.getfield 251, 3) := by decide +kernel
theorem dX9_read_190 : decode cX9_read 190 = .ok (.ireturn, 1) := by decide +kernel
theorem dX9_read_191 : decode cX9_read 191 = .ok (.aload_n 0, 1) := by decide +kernel
theorem dX9_read_192 : decode cX9_read 192 = .ok (.getfield 260, 3) := by decide +kernel
theorem dX9_read_195 : decode cX9_read 195 = .ok (.ifCond .le 8, 3) := by decide +kernel
theorem dX9_read_198 : decode cX9_read 198 = .ok (.aload_n 0, 1) := by decide +kernel
theorem dX9_read_199 : decode cX9_read 199 = .ok (.getfield 260, 3) := by decide +kernel
theorem dX9_read_202 : decode cX9_read 202 = .ok (.ireturn, 1) := by decide +kernel
theorem dX9_read_203 : decode cX9_read 203 = .ok (.aload_n 0, 1) := by decide +kernel
theorem dX9_read_204 : decode cX9_read 204 = .ok (.getfield 40, 3) := by decide +kernel
theorem dX9_read_207 : decode cX9_read 207 = .ok (.iload_n 1, 1) := by decide +kernel
theorem dX9_read_208 : decode cX9_read 208 = .ok (.iconst 1, 1) := by decide +kernel
theorem dX9_read_209 : decode cX9_read 209 = .ok (.aload_n 0, 1) := by decide +kernel
theorem dX9_read_210 : decode cX9_read 210 = .ok (.getfield 40, 3) := by decide +kernel
theorem dX9_read_213 : decode cX9_read 213 = .ok (.iload_n 1, 1) := by decide +kernel
theorem dX9_read_214 : decode cX9_read 214 = .ok (.iaload, 1) := by decide +kernel
theorem dX9_read_215 : decode cX9_read 215 = .ok (.isub, 1) := by decide +kernel
theorem dX9_read_216 : decode cX9_read 216 = .ok (.iastore, 1) := by decide +kernel
theorem dX9_read_217 : decode cX9_read 217 = .ok (.aload_n 0, 1) := by decide +kernel
theorem dX9_read_218 : decode cX9_read 218 = .ok (.iconst 0, 1) := by decide +kernel
theorem dX9_read_219 : decode cX9_read 219 = .ok (.putfield 290, 3) := by decide +kernel
theorem dX9_read_222 : decode cX9_read 222 = .ok (.iconst 0, 1) := by decide +kernel
theorem dX9_read_223 : decode cX9_read 223 = .ok (.ireturn, 1) := by decide +kernel
theorem dX9_place_0 : decode cX9_place 0 = .ok (.aload_n 0, 1) := by decide +kernel
theorem dX9_place_1 : decode cX9_place 1 = .ok (.getfield 37, 3) := by decide +kernel
theorem dX9_place_4 : decode cX9_place 4 = .ok (.ireturn, 1) := by decide +kernel
theorem dX9_tellRule_0 : decode cX9_tellRule 0 = .ok (.aload_n 0, 1) := by decide +kernel
theorem dX9_tellRule_1 : decode cX9_tellRule 1 = .ok (.bipush 20, 2) := by decide +kernel
theorem dX9_tellRule_3 : decode cX9_tellRule 3 = .ok (.invokevirtual 269, 3) := by decide +kernel
theorem dX9_tellRule_6 : decode cX9_tellRule 6 = .ok (.ifCond .ne 20, 3) := by decide +kernel
theorem dX9_tellRule_9 : decode cX9_tellRule 9 = .ok (.aload_n 0, 1) := by decide +kernel
theorem dX9_tellRule_10 : decode cX9_tellRule 10 = .ok (.bipush 22, 2) := by decide +kernel
theorem dX9_tellRule_12 : decode cX9_tellRule 12 = .ok (.invokevirtual 269, 3) := by decide +kernel
theorem dX9_tellRule_15 : decode cX9_tellRule 15 = .ok (.ifCond .ne 11, 3) := by decide +kernel
theorem dX9_tellRule_18 : decode cX9_tellRule 18 = .ok (.aload_n 0, 1) := by decide +kernel
theorem dX9_tellRule_19 : decode cX9_tellRule 19 = .ok (.iconst 1, 1) := by decide +kernel
theorem dX9_tellRule_20 : decode cX9_tellRule 20 = .ok (.invokevirtual 266, 3) := by decide +kernel
theorem dX9_tellRule_23 : decode cX9_tellRule 23 = .ok (.goto 22, 3) := by decide +kernel
theorem dX9_tellRule_26 : decode cX9_tellRule 26 = .ok (.aload_n 0, 1) := by decide +kernel
theorem dX9_tellRule_27 : decode cX9_tellRule 27 = .ok (.getfield 43, 3) := by decide +kernel
theorem dX9_tellRule_30 : decode cX9_tellRule 30 = .ok (.aload_n 0, 1) := by decide +kernel
theorem dX9_tellRule_31 : decode cX9_tellRule 31 = .ok (.getfield 281, 3) := by decide +kernel
theorem dX9_tellRule_34 : decode cX9_tellRule 34 = .ok (.iaload, 1) := by decide +kernel
theorem dX9_tellRule_35 : decode cX9_tellRule 35 = .ok (.bipush 20, 2) := by decide +kernel
theorem dX9_tellRule_37 : decode cX9_tellRule 37 = .ok (.if_icmp .ne 8, 3) := by decide +kernel
theorem dX9_tellRule_40 : decode cX9_tellRule 40 = .ok (.aload_n 0, 1) := by decide +kernel
theorem dX9_tellRule_41 : decode cX9_tellRule 41 = .ok (.iconst 2, 1) := by decide +kernel
theorem dX9_tellRule_42 : decode cX9_tellRule 42 = .ok (.invokevirtual 266, 3) := by decide +kernel
theorem dX9_tellRule_45 : decode cX9_tellRule 45 = .ok (.aload_n 0, 1) := by decide +kernel
theorem dX9_tellRule_46 : decode cX9_tellRule 46 = .ok (.getfield 251, 3) := by decide +kernel
theorem dX9_tellRule_49 : decode cX9_tellRule 49 = .ok (.ifCond .le 4, 3) := by decide +kernel
theorem dX9_tellRule_52 : decode cX9_tellRule 52 = .ok (.return_, 1) := by decide +kernel
theorem dX9_tellRule_53 : decode cX9_tellRule 53 = .ok (.bipush 20, 2) := by decide +kernel
theorem dX9_tellRule_55 : decode cX9_tellRule 55 = .ok (.aload_n 0, 1) := by decide +kernel
theorem dX9_tellRule_56 : decode cX9_tellRule 56 = .ok (.getfield 281, 3) := by decide +kernel
theorem dX9_tellRule_59 : decode cX9_tellRule 59 = .ok (.imul, 1) := by decide +kernel
theorem dX9_tellRule_60 : decode cX9_tellRule 60 = .ok (.aload_n 0, 1) := by decide +kernel
theorem dX9_tellRule_61 : decode cX9_tellRule 61 = .ok (.getfield 43, 3) := by decide +kernel
theorem dX9_tellRule_64 : decode cX9_tellRule 64 = .ok (.aload_n 0, 1) := by decide +kernel
theorem dX9_tellRule_65 : decode cX9_tellRule 65 = .ok (.getfield 281, 3) := by decide +kernel
theorem dX9_tellRule_68 : decode cX9_tellRule 68 = .ok (.iaload, 1) := by decide +kernel
theorem dX9_tellRule_69 : decode cX9_tellRule 69 = .ok (.iadd, 1) := by decide +kernel
theorem dX9_tellRule_70 : decode cX9_tellRule 70 = .ok (.istore_n 1, 1) := by decide +kernel
theorem dX9_tellRule_71 : decode cX9_tellRule 71 = .ok (.aload_n 0, 1) := by decide +kernel
theorem dX9_tellRule_72 : decode cX9_tellRule 72 = .ok (.getfield 46, 3) := by decide +kernel
theorem dX9_tellRule_75 : decode cX9_tellRule 75 = .ok (.iload_n 1, 1) := by decide +kernel
theorem dX9_tellRule_76 : decode cX9_tellRule 76 = .ok (.aload_n 0, 1) := by decide +kernel
theorem dX9_tellRule_77 : decode cX9_tellRule 77 = .ok (.bipush 20, 2) := by decide +kernel
theorem dX9_tellRule_79 : decode cX9_tellRule 79 = .ok (.invokevirtual 269, 3) := by decide +kernel
theorem dX9_tellRule_82 : decode cX9_tellRule 82 = .ok (.ifCond .eq 7, 3) := by decide +kernel
theorem dX9_tellRule_85 : decode cX9_tellRule 85 = .ok (.iconst 0, 1) := by decide +kernel
theorem dX9_tellRule_86 : decode cX9_tellRule 86 = .ok (.goto 4, 3) := by decide +kernel
theorem dX9_tellRule_89 : decode cX9_tellRule 89 = .ok (.iconst 1, 1) := by decide +kernel
theorem dX9_tellRule_90 : decode cX9_tellRule 90 = .ok (.iastore, 1) := by decide +kernel
theorem dX9_tellRule_91 : decode cX9_tellRule 91 = .ok (.aload_n 0, 1) := by decide +kernel
theorem dX9_tellRule_92 : decode cX9_tellRule 92 = .ok (.invokevirtual 272, 3) := by decide +kernel
theorem dX9_tellRule_95 : decode cX9_tellRule 95 = .ok (.aload_n 0, 1) := by decide +kernel
theorem dX9_tellRule_96 : decode cX9_tellRule 96 = .ok (.getfield 254, 3) := by decide +kernel
theorem dX9_tellRule_99 : decode cX9_tellRule 99 = .ok (.istore_n 2, 1) := by decide +kernel
theorem dX9_tellRule_100 : decode cX9_tellRule 100 = .ok (.aload_n 0, 1) := by decide +kernel
theorem dX9_tellRule_101 : decode cX9_tellRule 101 = .ok (.iconst 2, 1) := by decide +kernel
theorem dX9_tellRule_102 : decode cX9_tellRule 102 = .ok (.invokevirtual 294, 3) := by decide +kernel
theorem dX9_tellRule_105 : decode cX9_tellRule 105 = .ok (.aload_n 0, 1) := by decide +kernel
theorem dX9_tellRule_106 : decode cX9_tellRule 106 = .ok (.getfield 251, 3) := by decide +kernel
theorem dX9_tellRule_109 : decode cX9_tellRule 109 = .ok (.ifCond .le 4, 3) := by decide +kernel
theorem dX9_tellRule_112 : decode cX9_tellRule 112 = .ok (.return_, 1) := by decide +kernel
theorem dX9_tellRule_113 : decode cX9_tellRule 113 = .ok (.aload_n 0, 1) := by decide +kernel
theorem dX9_tellRule_114 : decode cX9_tellRule 114 = .ok (.getfield 49, 3) := by decide +kernel
theorem dX9_tellRule_117 : decode cX9_tellRule 117 = .ok (.iload_n 1, 1) := by decide +kernel
theorem dX9_tellRule_118 : decode cX9_tellRule 118 = .ok (.aload_n 0, 1) := by decide +kernel
theorem dX9_tellRule_119 : decode cX9_tellRule 119 = .ok (.getfield 27, 3) := by decide +kernel
theorem dX9_tellRule_122 : decode cX9_tellRule 122 = .ok (.iload_n 2, 1) := by decide +kernel
theorem dX9_tellRule_123 : decode cX9_tellRule 123 = .ok (.iaload, 1) := by decide +kernel
theorem dX9_tellRule_124 : decode cX9_tellRule 124 = .ok (.iastore, 1) := by decide +kernel
theorem dX9_tellRule_125 : decode cX9_tellRule 125 = .ok (.aload_n 0, 1) := by decide +kernel
theorem dX9_tellRule_126 : decode cX9_tellRule 126 = .ok (.getfield 27, 3) := by decide +kernel
theorem dX9_tellRule_129 : decode cX9_tellRule 129 = .ok (.iload_n 2, 1) := by decide +kernel
theorem dX9_tellRule_130 : decode cX9_tellRule 130 = .ok (.iaload, 1) := by decide +kernel
theorem dX9_tellRule_131 : decode cX9_tellRule 131 = .ok (.aload_n 0, 1) := by decide +kernel
theorem dX9_tellRule_132 : decode cX9_tellRule 132 = .ok (.getfield 46, 3) := by decide +kernel
theorem dX9_tellRule_135 : decode cX9_tellRule 135 = .ok (.iload_n 1, 1) := by decide +kernel
theorem dX9_tellRule_136 : decode cX9_tellRule 136 = .ok (.iaload, 1) := by decide +kernel
theorem dX9_tellRule_137 : decode cX9_tellRule 137 = .ok (.ifCond .ne 7, 3) := by decide +kernel
theorem dX9_tellRule_140 : decode cX9_tellRule 140 = .ok (.iconst 5, 1) := by decide +kernel
theorem dX9_tellRule_141 : decode cX9_tellRule 141 = .ok (.goto 4, 3) := by decide +kernel
theorem dX9_tellRule_144 : decode cX9_tellRule 144 = .ok (.iconst 3, 1) := by decide +kernel
theorem dX9_tellRule_145 : decode cX9_tellRule 145 = .ok (.if_icmp .le 9, 3) := by decide +kernel
theorem dX9_tellRule_148 : decode cX9_tellRule 148 = .ok (.aload_n 0, 1) := by decide +kernel
theorem dX9_tellRule_149 : decode cX9_tellRule 149 = .ok (.iconst 5, 1) := by decide +kernel
theorem dX9_tellRule_150 : decode cX9_tellRule 150 = .ok (.iload_n 2, 1) := by decide +kernel
theorem dX9_tellRule_151 : decode cX9_tellRule 151 = .ok (.invokevirtual 297, 3) := by decide +kernel
theorem dX9_tellRule_154 : decode cX9_tellRule 154 = .ok (.aload_n 0, 1) := by decide +kernel
theorem dX9_tellRule_155 : decode cX9_tellRule 155 = .ok (.getfield 52, 3) := by decide +kernel
theorem dX9_tellRule_158 : decode cX9_tellRule 158 = .ok (.iload_n 1, 1) := by decide +kernel
theorem dX9_tellRule_159 : decode cX9_tellRule 159 = .ok (.aload_n 0, 1) := by decide +kernel
theorem dX9_tellRule_160 : decode cX9_tellRule 160 = .ok (.getfield 58, 3) := by decide +kernel
theorem dX9_tellRule_163 : decode cX9_tellRule 163 = .ok (.aload_n 0, 1) := by decide +kernel
theorem dX9_tellRule_164 : decode cX9_tellRule 164 = .ok (.getfield 281, 3) := by decide +kernel
theorem dX9_tellRule_167 : decode cX9_tellRule 167 = .ok (.iaload, 1) := by decide +kernel
theorem dX9_tellRule_168 : decode cX9_tellRule 168 = .ok (.iastore, 1) := by decide +kernel
theorem dX9_tellRule_169 : decode cX9_tellRule 169 = .ok (.aload_n 0, 1) := by decide +kernel
theorem dX9_tellRule_170 : decode cX9_tellRule 170 = .ok (.getfield 46, 3) := by decide +kernel
theorem dX9_tellRule_173 : decode cX9_tellRule 173 = .ok (.iload_n 1, 1) := by decide +kernel
theorem dX9_tellRule_174 : decode cX9_tellRule 174 = .ok (.iaload, 1) := by decide +kernel
theorem dX9_tellRule_175 : decode cX9_tellRule 175 = .ok (.iconst 1, 1) := by decide +kernel
theorem dX9_tellRule_176 : decode cX9_tellRule 176 = .ok (.if_icmp .eq 12, 3) := by decide +kernel
theorem dX9_tellRule_179 : decode cX9_tellRule 179 = .ok (.aload_n 0, 1) := by decide +kernel
theorem dX9_tellRule_180 : decode cX9_tellRule 180 = .ok (.bipush 21, 2) := by decide +kernel
theorem dX9_tellRule_182 : decode cX9_tellRule 182 = .ok (.invokevirtual 269, 3) := by decide +kernel
theorem dX9_tellRule_185 : decode cX9_tellRule 185 = .ok (.ifCond .eq 7, 3) := by decide +kernel
theorem dX9_tellRule_188 : decode cX9_tellRule 188 = .ok (.iconst 1, 1) := by decide +kernel
theorem dX9_tellRule_189 : decode cX9_tellRule 189 = .ok (.goto 4, 3) := by decide +kernel
theorem dX9_tellRule_192 : decode cX9_tellRule 192 = .ok (.iconst 0, 1) := by decide +kernel
theorem dX9_tellRule_193 : decode cX9_tellRule 193 = .ok (.istore_n 3, 1) := by decide +kernel
theorem dX9_tellRule_194 : decode cX9_tellRule 194 = .ok (.iload_n 3, 1) := by decide +kernel
theorem dX9_tellRule_195 : decode cX9_tellRule 195 = .ok (.ifCond .eq 9, 3) := by decide +kernel
theorem dX9_tellRule_198 : decode cX9_tellRule 198 = .ok (.aload_n 0, 1) := by decide +kernel
theorem dX9_tellRule_199 : decode cX9_tellRule 199 = .ok (.bipush 21, 2) := by decide +kernel
theorem dX9_tellRule_201 : decode cX9_tellRule 201 = .ok (.invokevirtual 294, 3) := by decide +kernel
theorem dX9_tellRule_204 : decode cX9_tellRule 204 = .ok (.iconst 1, 1) := by decide +kernel
theorem dX9_tellRule_205 : decode cX9_tellRule 205 = .ok (.istore 4, 2) := by decide +kernel
theorem dX9_tellRule_207 : decode cX9_tellRule 207 = .ok (.iload_n 3, 1) := by decide +kernel
theorem dX9_tellRule_208 : decode cX9_tellRule 208 = .ok (.ifCond .eq 55, 3) := by decide +kernel
theorem dX9_tellRule_211 : decode cX9_tellRule 211 = .ok (.aload_n 0, 1) := by decide +kernel
theorem dX9_tellRule_212 : decode cX9_tellRule 212 = .ok (.getfield 251, 3) := by decide +kernel
theorem dX9_tellRule_215 : decode cX9_tellRule 215 = .ok (.ifCond .ne 48, 3) := by decide +kernel
theorem dX9_tellRule_218 : decode cX9_tellRule 218 = .ok (.aload_n 0, 1) := by decide +kernel
theorem dX9_tellRule_219 : decode cX9_tellRule 219 = .ok (.iload 4, 2) := by decide +kernel
theorem dX9_tellRule_221 : decode cX9_tellRule 221 = .ok (.invokevirtual 301, 3) := by decide +kernel
theorem dX9_tellRule_224 : decode cX9_tellRule 224 = .ok (.aload_n 0, 1) := by decide +kernel
theorem dX9_tellRule_225 : decode cX9_tellRule 225 = .ok (.bipush 23, 2) := by decide +kernel
theorem dX9_tellRule_227 : decode cX9_tellRule 227 = .ok (.invokevirtual 269, 3) := by decide +kernel
theorem dX9_tellRule_230 : decode cX9_tellRule 230 = .ok (.istore 4, 2) := by decide +kernel
theorem dX9_tellRule_232 : decode cX9_tellRule 232 = .ok (.iload 4, 2) := by decide +kernel
theorem dX9_tellRule_234 : decode cX9_tellRule 234 = .ok (.ifCond .ne 12, 3) := by decide +kernel
theorem dX9_tellRule_237 : decode cX9_tellRule 237 = .ok (.aload_n 0, 1) := by decide +kernel
theorem dX9_tellRule_238 : decode cX9_tellRule 238 = .ok (.bipush 24, 2) := by decide +kernel
theorem dX9_tellRule_240 : decode cX9_tellRule 240 = .ok (.invokevirtual 269, 3) := by decide +kernel
theorem dX9_tellRule_243 : decode cX9_tellRule 243 = .ok (.ifCond .eq 7, 3) := by decide +kernel
theorem dX9_tellRule_246 : decode cX9_tellRule 246 = .ok (.iconst 1, 1) := by decide +kernel
theorem dX9_tellRule_247 : decode cX9_tellRule 247 = .ok (.goto 4, 3) := by decide +kernel
theorem dX9_tellRule_250 : decode cX9_tellRule 250 = .ok (.iconst 0, 1) := by decide +kernel
theorem dX9_tellRule_251 : decode cX9_tellRule 251 = .ok (.istore_n 3, 1) := by decide +kernel
theorem dX9_tellRule_252 : decode cX9_tellRule 252 = .ok (.iload_n 3, 1) := by decide +kernel
theorem dX9_tellRule_253 : decode cX9_tellRule 253 = .ok (.ifCond .eq (-46), 3) := by decide +kernel
theorem dX9_tellRule_256 : decode cX9_tellRule 256 = .ok (.aload_n 0, 1) := by decide +kernel
theorem dX9_tellRule_257 : decode cX9_tellRule 257 = .ok (.invokevirtual 272, 3) := by decide +kernel
theorem dX9_tellRule_260 : decode cX9_tellRule 260 = .ok (.goto (-53), 3) := by decide +kernel
theorem dX9_tellRule_263 : decode cX9_tellRule 263 = .ok (.aload_n 0, 1) := by decide +kernel
theorem dX9_tellRule_264 : decode cX9_tellRule 264 = .ok (.iconst 4, 1) := by decide +kernel
theorem dX9_tellRule_265 : decode cX9_tellRule 265 = .ok (.invokevirtual 294, 3) := by decide +kernel
theorem dX9_tellRule_268 : decode cX9_tellRule 268 = .ok (.aload_n 0, 1) := by decide +kernel
theorem dX9_tellRule_269 : decode cX9_tellRule 269 = .ok (.getfield 251, 3) := by decide +kernel
theorem dX9_tellRule_272 : decode cX9_tellRule 272 = .ok (.ifCond .le 4, 3) := by decide +kernel
theorem dX9_tellRule_275 : decode cX9_tellRule 275 = .ok (.return_, 1) := by decide +kernel
theorem dX9_tellRule_276 : decode cX9_tellRule 276 = .ok (.aload_n 0, 1) := by decide +kernel
theorem dX9_tellRule_277 : decode cX9_tellRule 277 = .ok (.getfield 55, 3) := by decide +kernel
theorem dX9_tellRule_280 : decode cX9_tellRule 280 = .ok (.iload_n 1, 1) := by decide +kernel
theorem dX9_tellRule_281 : decode cX9_tellRule 281 = .ok (.aload_n 0, 1) := by decide +kernel
theorem dX9_tellRule_282 : decode cX9_tellRule 282 = .ok (.getfield 58, 3) := by decide +kernel
theorem dX9_tellRule_285 : decode cX9_tellRule 285 = .ok (.aload_n 0, 1) := by decide +kernel
theorem dX9_tellRule_286 : decode cX9_tellRule 286 = .ok (.getfield 281, 3) := by decide +kernel
theorem dX9_tellRule_289 : decode cX9_tellRule 289 = .ok (.iaload, 1) := by decide +kernel
theorem dX9_tellRule_290 : decode cX9_tellRule 290 = .ok (.iastore, 1) := by decide +kernel
theorem dX9_tellRule_291 : decode cX9_tellRule 291 = .ok (.aload_n 0, 1) := by decide +kernel
theorem dX9_tellRule_292 : decode cX9_tellRule 292 = .ok (.getfield 43, 3) := by decide +kernel
theorem dX9_tellRule_295 : decode cX9_tellRule 295 = .ok (.aload_n 0, 1) := by decide +kernel
theorem dX9_tellRule_296 : decode cX9_tellRule 296 = .ok (.getfield 281, 3) := by decide +kernel
theorem dX9_tellRule_299 : decode cX9_tellRule 299 = .ok (.dup2, 1) := by decide +kernel
theorem dX9_tellRule_300 : decode cX9_tellRule 300 = .ok (.iaload, 1) := by decide +kernel
theorem dX9_tellRule_301 : decode cX9_tellRule 301 = .ok (.iconst 1, 1) := by decide +kernel
theorem dX9_tellRule_302 : decode cX9_tellRule 302 = .ok (.iadd, 1) := by decide +kernel
theorem dX9_tellRule_303 : decode cX9_tellRule 303 = .ok (.iastore, 1) := by decide +kernel
theorem dX9_tellRule_304 : decode cX9_tellRule 304 = .ok (.return_, 1) := by decide +kernel
theorem dX9_relation_0 : decode cX9_relation 0 = .ok (.aload_n 0, 1) := by decide +kernel
theorem dX9_relation_1 : decode cX9_relation 1 = .ok (.getfield 284, 3) := by decide +kernel
theorem dX9_relation_4 : decode cX9_relation 4 = .ok (.istore_n 2, 1) := by decide +kernel
theorem dX9_relation_5 : decode cX9_relation 5 = .ok (.aload_n 0, 1) := by decide +kernel
theorem dX9_relation_6 : decode cX9_relation 6 = .ok (.invokevirtual 305, 3) := by decide +kernel
theorem dX9_relation_9 : decode cX9_relation 9 = .ok (.aload_n 0, 1) := by decide +kernel
theorem dX9_relation_10 : decode cX9_relation 10 = .ok (.getfield 251, 3) := by decide +kernel
theorem dX9_relation_13 : decode cX9_relation 13 = .ok (.ifCond .le 7, 3) := by decide +kernel
theorem dX9_relation_16 : decode cX9_relation 16 = .ok (.iconst 0, 1) := by decide +kernel
theorem dX9_relation_17 : decode cX9_relation 17 = .ok (.goto 15, 3) := by decide +kernel
theorem dX9_relation_20 : decode cX9_relation 20 = .ok (.aload_n 0, 1) := by decide +kernel
theorem dX9_relation_21 : decode cX9_relation 21 = .ok (.getfield 20, 3) := by decide +kernel
theorem dX9_relation_24 : decode cX9_relation 24 = .ok (.aload_n 0, 1) := by decide +kernel
theorem dX9_relation_25 : decode cX9_relation 25 = .ok (.getfield 254, 3) := by decide +kernel
theorem dX9_relation_28 : decode cX9_relation 28 = .ok (.iaload, 1) := by decide +kernel
theorem dX9_relation_29 : decode cX9_relation 29 = .ok (.bipush 11, 2) := by decide +kernel
theorem dX9_relation_31 : decode cX9_relation 31 = .ok (.isub, 1) := by decide +kernel
theorem dX9_relation_32 : decode cX9_relation 32 = .ok (.istore_n 3, 1) := by decide +kernel
theorem dX9_relation_33 : decode cX9_relation 33 = .ok (.aload_n 0, 1) := by decide +kernel
theorem dX9_relation_34 : decode cX9_relation 34 = .ok (.getfield 251, 3) := by decide +kernel
theorem dX9_relation_37 : decode cX9_relation 37 = .ok (.ifCond .ne 17, 3) := by decide +kernel
theorem dX9_relation_40 : decode cX9_relation 40 = .ok (.iload_n 3, 1) := by decide +kernel
theorem dX9_relation_41 : decode cX9_relation 41 = .ok (.ifCond .lt 8, 3) := by decide +kernel
theorem dX9_relation_44 : decode cX9_relation 44 = .ok (.iload_n 3, 1) := by decide +kernel
theorem dX9_relation_45 : decode cX9_relation 45 = .ok (.iconst 3, 1) := by decide +kernel
theorem dX9_relation_46 : decode cX9_relation 46 = .ok (.if_icmp .le 8, 3) := by decide +kernel
theorem dX9_relation_49 : decode cX9_relation 49 = .ok (.aload_n 0, 1) := by decide +kernel
theorem dX9_relation_50 : decode cX9_relation 50 = .ok (.iconst 1, 1) := by decide +kernel
theorem dX9_relation_51 : decode cX9_relation 51 = .ok (.invokevirtual 266, 3) := by decide +kernel
theorem dX9_relation_54 : decode cX9_relation 54 = .ok (.aload_n 0, 1) := by decide +kernel
theorem dX9_relation_55 : decode cX9_relation 55 = .ok (.invokevirtual 272, 3) := by decide +kernel
theorem dX9_relation_58 : decode cX9_relation 58 = .ok (.aload_n 0, 1) := by decide +kernel
theorem dX9_relation_59 : decode cX9_relation 59 = .ok (.getfield 284, 3) := by decide +kernel
theorem dX9_relation_62 : decode cX9_relation 62 = .ok (.istore 4, 2) := by decide +kernel
theorem dX9_relation_64 : decode cX9_relation 64 = .ok (.aload_n 0, 1) := by decide +kernel
theorem dX9_relation_65 : decode cX9_relation 65 = .ok (.invokevirtual 305, 3) := by decide +kernel
theorem dX9_relation_68 : decode cX9_relation 68 = .ok (.aload_n 0, 1) := by decide +kernel
theorem dX9_relation_69 : decode cX9_relation 69 = .ok (.getfield 251, 3) := by decide +kernel
theorem dX9_relation_72 : decode cX9_relation 72 = .ok (.ifCond .le 4, 3) := by decide +kernel
theorem dX9_relation_75 : decode cX9_relation 75 = .ok (.return_, 1) := by decide +kernel
theorem dX9_relation_76 : decode cX9_relation 76 = .ok (.sipush 200, 3) := by decide +kernel
theorem dX9_relation_79 : decode cX9_relation 79 = .ok (.aload_n 0, 1) := by decide +kernel
theorem dX9_relation_80 : decode cX9_relation 80 = .ok (.getfield 281, 3) := by decide +kernel
theorem dX9_relation_83 : decode cX9_relation 83 = .ok (.imul, 1) := by decide +kernel
theorem dX9_relation_84 : decode cX9_relation 84 = .ok (.aload_n 0, 1) := by decide +kernel
theorem dX9_relation_85 : decode cX9_relation 85 = .ok (.getfield 58, 3) := by decide +kernel
theorem dX9_relation_88 : decode cX9_relation 88 = .ok (.aload_n 0, 1) := by decide +kernel
theorem dX9_relation_89 : decode cX9_relation 89 = .ok (.getfield 281, 3) := by decide +kernel
theorem dX9_relation_92 : decode cX9_relation 92 = .ok (.iaload, 1) := by decide +kernel
theorem dX9_relation_93 : decode cX9_relation 93 = .ok (.iadd, 1) := by decide +kernel
theorem dX9_relation_94 : decode cX9_relation 94 = .ok (.istore 5, 2) := by decide +kernel
theorem dX9_relation_96 : decode cX9_relation 96 = .ok (.aload_n 0, 1) := by decide +kernel
theorem dX9_relation_97 : decode cX9_relation 97 = .ok (.getfield 61, 3) := by decide +kernel
theorem dX9_relation_100 : decode cX9_relation 100 = .ok (.iload 5, 2) := by decide +kernel
theorem dX9_relation_102 : decode cX9_relation 102 = .ok (.iload_n 3, 1) := by decide +kernel
theorem dX9_relation_103 : decode cX9_relation 103 = .ok (.iastore, 1) := by decide +kernel
theorem dX9_relation_104 : decode cX9_relation 104 = .ok (.aload_n 0, 1) := by decide +kernel
theorem dX9_relation_105 : decode cX9_relation 105 = .ok (.getfield 64, 3) := by decide +kernel
theorem dX9_relation_108 : decode cX9_relation 108 = .ok (.iload 5, 2) := by decide +kernel
theorem dX9_relation_110 : decode cX9_relation 110 = .ok (.iload_n 2, 1) := by decide +kernel
theorem dX9_relation_111 : decode cX9_relation 111 = .ok (.iastore, 1) := by decide +kernel
theorem dX9_relation_112 : decode cX9_relation 112 = .ok (.aload_n 0, 1) := by decide +kernel
theorem dX9_relation_113 : decode cX9_relation 113 = .ok (.getfield 67, 3) := by decide +kernel
theorem dX9_relation_116 : decode cX9_relation 116 = .ok (.iload 5, 2) := by decide +kernel
theorem dX9_relation_118 : decode cX9_relation 118 = .ok (.iload 4, 2) := by decide +kernel
theorem dX9_relation_120 : decode cX9_relation 120 = .ok (.iastore, 1) := by decide +kernel
theorem dX9_relation_121 : decode cX9_relation 121 = .ok (.aload_n 0, 1) := by decide +kernel
theorem dX9_relation_122 : decode cX9_relation 122 = .ok (.getfield 70, 3) := by decide +kernel
theorem dX9_relation_125 : decode cX9_relation 125 = .ok (.iload 5, 2) := by decide +kernel
theorem dX9_relation_127 : decode cX9_relation 127 = .ok (.aload_n 0, 1) := by decide +kernel
theorem dX9_relation_128 : decode cX9_relation 128 = .ok (.getfield 284, 3) := by decide +kernel
theorem dX9_relation_131 : decode cX9_relation 131 = .ok (.iastore, 1) := by decide +kernel
theorem dX9_relation_132 : decode cX9_relation 132 = .ok (.aload_n 0, 1) := by decide +kernel
theorem dX9_relation_133 : decode cX9_relation 133 = .ok (.getfield 73, 3) := by decide +kernel
theorem dX9_relation_136 : decode cX9_relation 136 = .ok (.iload 5, 2) := by decide +kernel
theorem dX9_relation_138 : decode cX9_relation 138 = .ok (.iload_n 1, 1) := by decide +kernel
theorem dX9_relation_139 : decode cX9_relation 139 = .ok (.bastore, 1) := by decide +kernel
theorem dX9_relation_140 : decode cX9_relation 140 = .ok (.aload_n 0, 1) := by decide +kernel
theorem dX9_relation_141 : decode cX9_relation 141 = .ok (.getfield 58, 3) := by decide +kernel
theorem dX9_relation_144 : decode cX9_relation 144 = .ok (.aload_n 0, 1) := by decide +kernel
theorem dX9_relation_145 : decode cX9_relation 145 = .ok (.getfield 281, 3) := by decide +kernel
theorem dX9_relation_148 : decode cX9_relation 148 = .ok (.dup2, 1) := by decide +kernel
theorem dX9_relation_149 : decode cX9_relation 149 = .ok (.iaload, 1) := by decide +kernel
theorem dX9_relation_150 : decode cX9_relation 150 = .ok (.iconst 1, 1) := by decide +kernel
theorem dX9_relation_151 : decode cX9_relation 151 = .ok (.iadd, 1) := by decide +kernel
theorem dX9_relation_152 : decode cX9_relation 152 = .ok (.iastore, 1) := by decide +kernel
theorem dX9_relation_153 : decode cX9_relation 153 = .ok (.return_, 1) := by decide +kernel
theorem dX9_emit_0 : decode cX9_emit 0 = .ok (.aload_n 0, 1) := by decide +kernel
theorem dX9_emit_1 : decode cX9_emit 1 = .ok (.getfield 77, 3) := by decide +kernel
theorem dX9_emit_4 : decode cX9_emit 4 = .ok (.aload_n 0, 1) := by decide +kernel
theorem dX9_emit_5 : decode cX9_emit 5 = .ok (.getfield 284, 3) := by decide +kernel
theorem dX9_emit_8 : decode cX9_emit 8 = .ok (.iload_n 1, 1) := by decide +kernel
theorem dX9_emit_9 : decode cX9_emit 9 = .ok (.iastore, 1) := by decide +kernel
theorem dX9_emit_10 : decode cX9_emit 10 = .ok (.aload_n 0, 1) := by decide +kernel
theorem dX9_emit_11 : decode cX9_emit 11 = .ok (.getfield 80, 3) := by decide +kernel
theorem dX9_emit_14 : decode cX9_emit 14 = .ok (.aload_n 0, 1) := by decide +kernel
theorem dX9_emit_15 : decode cX9_emit 15 = .ok (.getfield 284, 3) := by decide +kernel
theorem dX9_emit_18 : decode cX9_emit 18 = .ok (.iload_n 2, 1) := by decide +kernel
theorem dX9_emit_19 : decode cX9_emit 19 = .ok (.iastore, 1) := by decide +kernel
theorem dX9_emit_20 : decode cX9_emit 20 = .ok (.aload_n 0, 1) := by decide +kernel
theorem dX9_emit_21 : decode cX9_emit 21 = .ok (.dup, 1) := by decide +kernel
theorem dX9_emit_22 : decode cX9_emit 22 = .ok (.getfield 284, 3) := by decide +kernel
theorem dX9_emit_25 : decode cX9_emit 25 = .ok (.iconst 1, 1) := by decide +kernel
theorem dX9_emit_26 : decode cX9_emit 26 = .ok (.iadd, 1) := by decide +kernel
theorem dX9_emit_27 : decode cX9_emit 27 = .ok (.putfield 284, 3) := by decide +kernel
theorem dX9_emit_30 : decode cX9_emit 30 = .ok (.return_, 1) := by decide +kernel
theorem dX9_comesOut_0 : decode cX9_comesOut 0 = .ok (.aload_n 0, 1) := by decide +kernel
theorem dX9_comesOut_1 : decode cX9_comesOut 1 = .ok (.getfield 308, 3) := by decide +kernel
theorem dX9_comesOut_4 : decode cX9_comesOut 4 = .ok (.ifCond .le 88, 3) := by decide +kernel
theorem dX9_comesOut_7 : decode cX9_comesOut 7 = .ok (.aload_n 0, 1) := by decide +kernel
theorem dX9_comesOut_8 : decode cX9_comesOut 8 = .ok (.getfield 83, 3) := by decide +kernel
theorem dX9_comesOut_11 : decode cX9_comesOut 11 = .ok (.aload_n 0, 1) := by decide +kernel
theorem dX9_comesOut_12 : decode cX9_comesOut 12 = .ok (.getfield 308, 3) := by decide +kernel
theorem dX9_comesOut_15 : decode cX9_comesOut 15 = .ok (.iconst 1, 1) := by decide +kernel
theorem dX9_comesOut_16 : decode cX9_comesOut 16 = .ok (.isub, 1) := by decide +kernel
theorem dX9_comesOut_17 : decode cX9_comesOut 17 = .ok (.iaload, 1) := by decide +kernel
theorem dX9_comesOut_18 : decode cX9_comesOut 18 = .ok (.bipush 6, 2) := by decide +kernel
theorem dX9_comesOut_20 : decode cX9_comesOut 20 = .ok (.if_icmp .eq 72, 3) := by decide +kernel
theorem dX9_comesOut_23 : decode cX9_comesOut 23 = .ok (.iload_n 1, 1) := by decide +kernel
theorem dX9_comesOut_24 : decode cX9_comesOut 24 = .ok (.ifCond .eq 19, 3) := by decide +kernel
theorem dX9_comesOut_27 : decode cX9_comesOut 27 = .ok (.aload_n 0, 1) := by decide +kernel
theorem dX9_comesOut_28 : decode cX9_comesOut 28 = .ok (.getfield 83, 3) := by decide +kernel
theorem dX9_comesOut_31 : decode cX9_comesOut 31 = .ok (.aload_n 0, 1) := by decide +kernel
theorem dX9_comesOut_32 : decode cX9_comesOut 32 = .ok (.getfield 308, 3) := by decide +kernel
theorem dX9_comesOut_35 : decode cX9_comesOut 35 = .ok (.iconst 1, 1) := by decide +kernel
theorem dX9_comesOut_36 : decode cX9_comesOut 36 = .ok (.isub, 1) := by decide +kernel
theorem dX9_comesOut_37 : decode cX9_comesOut 37 = .ok (.iaload, 1) := by decide +kernel
theorem dX9_comesOut_38 : decode cX9_comesOut 38 = .ok (.bipush 10, 2) := by decide +kernel
theorem dX9_comesOut_40 : decode cX9_comesOut 40 = .ok (.if_icmp .ne 52, 3) := by decide +kernel
theorem dX9_comesOut_43 : decode cX9_comesOut 43 = .ok (.aload_n 0, 1) := by decide +kernel
theorem dX9_comesOut_44 : decode cX9_comesOut 44 = .ok (.dup, 1) := by decide +kernel
theorem dX9_comesOut_45 : decode cX9_comesOut 45 = .ok (.getfield 308, 3) := by decide +kernel
theorem dX9_comesOut_48 : decode cX9_comesOut 48 = .ok (.iconst 1, 1) := by decide +kernel
theorem dX9_comesOut_49 : decode cX9_comesOut 49 = .ok (.isub, 1) := by decide +kernel
theorem dX9_comesOut_50 : decode cX9_comesOut 50 = .ok (.putfield 308, 3) := by decide +kernel
theorem dX9_comesOut_53 : decode cX9_comesOut 53 = .ok (.aload_n 0, 1) := by decide +kernel
theorem dX9_comesOut_54 : decode cX9_comesOut 54 = .ok (.getfield 83, 3) := by decide +kernel
theorem dX9_comesOut_57 : decode cX9_comesOut 57 = .ok (.aload_n 0, 1) := by decide +kernel
theorem dX9_comesOut_58 : decode cX9_comesOut 58 = .ok (.getfield 308, 3) := by decide +kernel
theorem dX9_comesOut_61 : decode cX9_comesOut 61 = .ok (.iaload, 1) := by decide +kernel
theorem dX9_comesOut_62 : decode cX9_comesOut 62 = .ok (.istore_n 2, 1) := by decide +kernel
theorem dX9_comesOut_63 : decode cX9_comesOut 63 = .ok (.aload_n 0, 1) := by decide +kernel
theorem dX9_comesOut_64 : decode cX9_comesOut 64 = .ok (.iload_n 2, 1) := by decide +kernel
theorem dX9_comesOut_65 : decode cX9_comesOut 65 = .ok (.bipush 8, 2) := by decide +kernel
theorem dX9_comesOut_67 : decode cX9_comesOut 67 = .ok (.if_icmp .ne 7, 3) := by decide +kernel
theorem dX9_comesOut_70 : decode cX9_comesOut 70 = .ok (.iconst 2, 1) := by decide +kernel
theorem dX9_comesOut_71 : decode cX9_comesOut 71 = .ok (.goto 14, 3) := by decide +kernel
theorem dX9_comesOut_74 : decode cX9_comesOut 74 = .ok (.iload_n 2, 1) := by decide +kernel
theorem dX9_comesOut_75 : decode cX9_comesOut 75 = .ok (.bipush 9, 2) := by decide +kernel
theorem dX9_comesOut_77 : decode cX9_comesOut 77 = .ok (.if_icmp .ne 7, 3) := by decide +kernel
theorem dX9_comesOut_80 : decode cX9_comesOut 80 = .ok (.iconst 3, 1) := by decide +kernel
theorem dX9_comesOut_81 : decode cX9_comesOut 81 = .ok (.goto 4, 3) := by decide +kernel
theorem dX9_comesOut_84 : decode cX9_comesOut 84 = .ok (.iconst 4, 1) := by decide +kernel
theorem dX9_comesOut_85 : decode cX9_comesOut 85 = .ok (.iconst 0, 1) := by decide +kernel
theorem dX9_comesOut_86 : decode cX9_comesOut 86 = .ok (.invokevirtual 311, 3) := by decide +kernel
theorem dX9_comesOut_89 : decode cX9_comesOut 89 = .ok (.goto (-89), 3) := by decide +kernel
theorem dX9_comesOut_92 : decode cX9_comesOut 92 = .ok (.return_, 1) := by decide +kernel
theorem dX9_expression_0 : decode cX9_expression 0 = .ok (.aload_n 0, 1) := by decide +kernel
theorem dX9_expression_1 : decode cX9_expression 1 = .ok (.iconst 0, 1) := by decide +kernel
theorem dX9_expression_2 : decode cX9_expression 2 = .ok (.putfield 308, 3) := by decide +kernel
theorem dX9_expression_5 : decode cX9_expression 5 = .ok (.aload_n 0, 1) := by decide +kernel
theorem dX9_expression_6 : decode cX9_expression 6 = .ok (.getfield 278, 3) := by decide +kernel
theorem dX9_expression_9 : decode cX9_expression 9 = .ok (.istore_n 1, 1) := by decide +kernel
theorem dX9_expression_10 : decode cX9_expression 10 = .ok (.iconst 1, 1) := by decide +kernel
theorem dX9_expression_11 : decode cX9_expression 11 = .ok (.istore_n 2, 1) := by decide +kernel
theorem dX9_expression_12 : decode cX9_expression 12 = .ok (.iload_n 2, 1) := by decide +kernel
theorem dX9_expression_13 : decode cX9_expression 13 = .ok (.ifCond .eq 347, 3) := by decide +kernel
theorem dX9_expression_16 : decode cX9_expression 16 = .ok (.aload_n 0, 1) := by decide +kernel
theorem dX9_expression_17 : decode cX9_expression 17 = .ok (.getfield 251, 3) := by decide +kernel
theorem dX9_expression_20 : decode cX9_expression 20 = .ok (.ifCond .ne 340, 3) := by decide +kernel
theorem dX9_expression_23 : decode cX9_expression 23 = .ok (.aload_n 0, 1) := by decide +kernel
theorem dX9_expression_24 : decode cX9_expression 24 = .ok (.bipush 6, 2) := by decide +kernel
theorem dX9_expression_26 : decode cX9_expression 26 = .ok (.invokevirtual 269, 3) := by decide +kernel
theorem dX9_expression_29 : decode cX9_expression 29 = .ok (.ifCond .eq 63, 3) := by decide +kernel
theorem dX9_expression_32 : decode cX9_expression 32 = .ok (.aload_n 0, 1) := by decide +kernel
theorem dX9_expression_33 : decode cX9_expression 33 = .ok (.getfield 278, 3) := by decide +kernel
theorem dX9_expression_36 : decode cX9_expression 36 = .ok (.bipush 6, 2) := by decide +kernel
theorem dX9_expression_38 : decode cX9_expression 38 = .ok (.if_icmp .ne 8, 3) := by decide +kernel
theorem dX9_expression_41 : decode cX9_expression 41 = .ok (.aload_n 0, 1) := by decide +kernel
theorem dX9_expression_42 : decode cX9_expression 42 = .ok (.iconst 2, 1) := by decide +kernel
theorem dX9_expression_43 : decode cX9_expression 43 = .ok (.invokevirtual 266, 3) := by decide +kernel
theorem dX9_expression_46 : decode cX9_expression 46 = .ok (.aload_n 0, 1) := by decide +kernel
theorem dX9_expression_47 : decode cX9_expression 47 = .ok (.getfield 251, 3) := by decide +kernel
theorem dX9_expression_50 : decode cX9_expression 50 = .ok (.ifCond .le 4, 3) := by decide +kernel
theorem dX9_expression_53 : decode cX9_expression 53 = .ok (.return_, 1) := by decide +kernel
theorem dX9_expression_54 : decode cX9_expression 54 = .ok (.aload_n 0, 1) := by decide +kernel
theorem dX9_expression_55 : decode cX9_expression 55 = .ok (.dup, 1) := by decide +kernel
theorem dX9_expression_56 : decode cX9_expression 56 = .ok (.getfield 278, 3) := by decide +kernel
theorem dX9_expression_59 : decode cX9_expression 59 = .ok (.iconst 1, 1) := by decide +kernel
theorem dX9_expression_60 : decode cX9_expression 60 = .ok (.iadd, 1) := by decide +kernel
theorem dX9_expression_61 : decode cX9_expression 61 = .ok (.putfield 278, 3) := by decide +kernel
theorem dX9_expression_64 : decode cX9_expression 64 = .ok (.aload_n 0, 1) := by decide +kernel
theorem dX9_expression_65 : decode cX9_expression 65 = .ok (.invokevirtual 272, 3) := by decide +kernel
theorem dX9_expression_68 : decode cX9_expression 68 = .ok (.aload_n 0, 1) := by decide +kernel
theorem dX9_expression_69 : decode cX9_expression 69 = .ok (.getfield 83, 3) := by decide +kernel
theorem dX9_expression_72 : decode cX9_expression 72 = .ok (.aload_n 0, 1) := by decide +kernel
theorem dX9_expression_73 : decode cX9_expression 73 = .ok (.getfield 308, 3) := by decide +kernel
theorem dX9_expression_76 : decode cX9_expression 76 = .ok (.bipush 6, 2) := by decide +kernel
theorem dX9_expression_78 : decode cX9_expression 78 = .ok (.iastore, 1) := by decide +kernel
theorem dX9_expression_79 : decode cX9_expression 79 = .ok (.aload_n 0, 1) := by decide +kernel
theorem dX9_expression_80 : decode cX9_expression 80 = .ok (.dup, 1) := by decide +kernel
theorem dX9_expression_81 : decode cX9_expression 81 = .ok (.getfield 308, 3) := by decide +kernel
theorem dX9_expression_84 : decode cX9_expression 84 = .ok (.iconst 1, 1) := by decide +kernel
theorem dX9_expression_85 : decode cX9_expression 85 = .ok (.iadd, 1) := by decide +kernel
theorem dX9_expression_86 : decode cX9_expression 86 = .ok (.putfield 308, 3) := by decide +kernel
theorem dX9_expression_89 : decode cX9_expression 89 = .ok (.goto (-77), 3) := by decide +kernel
theorem dX9_expression_92 : decode cX9_expression 92 = .ok (.aload_n 0, 1) := by decide +kernel
theorem dX9_expression_93 : decode cX9_expression 93 = .ok (.getfield 251, 3) := by decide +kernel
theorem dX9_expression_96 : decode cX9_expression 96 = .ok (.ifCond .ne 35, 3) := by decide +kernel
theorem dX9_expression_99 : decode cX9_expression 99 = .ok (.aload_n 0, 1) := by decide +kernel
theorem dX9_expression_100 : decode cX9_expression 100 = .ok (.getfield 20, 3) := by decide +kernel
theorem dX9_expression_103 : decode cX9_expression 103 = .ok (.aload_n 0, 1) := by decide +kernel
theorem dX9_expression_104 : decode cX9_expression 104 = .ok (.getfield 254, 3) := by decide +kernel
theorem dX9_expression_107 : decode cX9_expression 107 = .ok (.iaload, 1) := by decide +kernel
theorem dX9_expression_108 : decode cX9_expression 108 = .ok (.bipush 25, 2) := by decide +kernel
theorem dX9_expression_110 : decode cX9_expression 110 = .ok (.if_icmp .lt 21, 3) := by decide +kernel
theorem dX9_expression_113 : decode cX9_expression 113 = .ok (.aload_n 0, 1) := by decide +kernel
theorem dX9_expression_114 : decode cX9_expression 114 = .ok (.getfield 20, 3) := by decide +kernel
theorem dX9_expression_117 : decode cX9_expression 117 = .ok (.aload_n 0, 1) := by decide +kernel
theorem dX9_expression_118 : decode cX9_expression 118 = .ok (.getfield 254, 3) := by decide +kernel
theorem dX9_expression_121 : decode cX9_expression 121 = .ok (.iaload, 1) := by decide +kernel
theorem dX9_expression_122 : decode cX9_expression 122 = .ok (.bipush 31, 2) := by decide +kernel
theorem dX9_expression_124 : decode cX9_expression 124 = .ok (.if_icmp .gt 7, 3) := by decide +kernel
theorem dX9_expression_127 : decode cX9_expression 127 = .ok (.iconst 1, 1) := by decide +kernel
theorem dX9_expression_128 : decode cX9_expression 128 = .ok (.goto 4, 3) := by decide +kernel
theorem dX9_expression_131 : decode cX9_expression 131 = .ok (.iconst 0, 1) := by decide +kernel
theorem dX9_expression_132 : decode cX9_expression 132 = .ok (.istore_n 3, 1) := by decide +kernel
theorem dX9_expression_133 : decode cX9_expression 133 = .ok (.aload_n 0, 1) := by decide +kernel
theorem dX9_expression_134 : decode cX9_expression 134 = .ok (.iconst 2, 1) := by decide +kernel
theorem dX9_expression_135 : decode cX9_expression 135 = .ok (.invokevirtual 269, 3) := by decide +kernel
theorem dX9_expression_138 : decode cX9_expression 138 = .ok (.ifCond .ne 12, 3) := by decide +kernel
theorem dX9_expression_141 : decode cX9_expression 141 = .ok (.iload_n 3, 1) := by decide +kernel
theorem dX9_expression_142 : decode cX9_expression 142 = .ok (.ifCond .ne 8, 3) := by decide +kernel
theorem dX9_expression_145 : decode cX9_expression 145 = .ok (.aload_n 0, 1) := by decide +kernel
theorem dX9_expression_146 : decode cX9_expression 146 = .ok (.iconst 1, 1) := by decide +kernel
theorem dX9_expression_147 : decode cX9_expression 147 = .ok (.invokevirtual 266, 3) := by decide +kernel
theorem dX9_expression_150 : decode cX9_expression 150 = .ok (.aload_n 0, 1) := by decide +kernel
theorem dX9_expression_151 : decode cX9_expression 151 = .ok (.getfield 251, 3) := by decide +kernel
theorem dX9_expression_154 : decode cX9_expression 154 = .ok (.ifCond .le 4, 3) := by decide +kernel
theorem dX9_expression_157 : decode cX9_expression 157 = .ok (.return_, 1) := by decide +kernel
theorem dX9_expression_158 : decode cX9_expression 158 = .ok (.iload_n 3, 1) := by decide +kernel
theorem dX9_expression_159 : decode cX9_expression 159 = .ok (.ifCond .eq 23, 3) := by decide +kernel
theorem dX9_expression_162 : decode cX9_expression 162 = .ok (.aload_n 0, 1) := by decide +kernel
theorem dX9_expression_163 : decode cX9_expression 163 = .ok (.iconst 1, 1) := by decide +kernel
theorem dX9_expression_164 : decode cX9_expression 164 = .ok (.aload_n 0, 1) := by decide +kernel
theorem dX9_expression_165 : decode cX9_expression 165 = .ok (.getfield 20, 3) := by decide +kernel
theorem dX9_expression_168 : decode cX9_expression 168 = .ok (.aload_n 0, 1) := by decide +kernel
theorem dX9_expression_169 : decode cX9_expression 169 = .ok (.getfield 254, 3) := by decide +kernel
theorem dX9_expression_172 : decode cX9_expression 172 = .ok (.iaload, 1) := by decide +kernel
theorem dX9_expression_173 : decode cX9_expression 173 = .ok (.bipush 25, 2) := by decide +kernel
theorem dX9_expression_175 : decode cX9_expression 175 = .ok (.isub, 1) := by decide +kernel
theorem dX9_expression_176 : decode cX9_expression 176 = .ok (.invokevirtual 311, 3) := by decide +kernel
theorem dX9_expression_179 : decode cX9_expression 179 = .ok (.goto 17, 3) := by decide +kernel
theorem dX9_expression_182 : decode cX9_expression 182 = .ok (.aload_n 0, 1) := by decide +kernel
theorem dX9_expression_183 : decode cX9_expression 183 = .ok (.iconst 0, 1) := by decide +kernel
theorem dX9_expression_184 : decode cX9_expression 184 = .ok (.aload_n 0, 1) := by decide +kernel
theorem dX9_expression_185 : decode cX9_expression 185 = .ok (.getfield 27, 3) := by decide +kernel
theorem dX9_expression_188 : decode cX9_expression 188 = .ok (.aload_n 0, 1) := by decide +kernel
theorem dX9_expression_189 : decode cX9_expression 189 = .ok (.getfield 254, 3) := by decide +kernel
theorem dX9_expression_192 : decode cX9_expression 192 = .ok (.iaload, 1) := by decide +kernel
theorem dX9_expression_193 : decode cX9_expression 193 = .ok (.invokevirtual 311, 3) := by decide +kernel
theorem dX9_expression_196 : decode cX9_expression 196 = .ok (.aload_n 0, 1) := by decide +kernel
theorem dX9_expression_197 : decode cX9_expression 197 = .ok (.invokevirtual 272, 3) := by decide +kernel
theorem dX9_expression_200 : decode cX9_expression 200 = .ok (.aload_n 0, 1) := by decide +kernel
theorem dX9_expression_201 : decode cX9_expression 201 = .ok (.bipush 7, 2) := by decide +kernel
theorem dX9_expression_203 : decode cX9_expression 203 = .ok (.invokevirtual 269, 3) := by decide +kernel
theorem dX9_expression_206 : decode cX9_expression 206 = .ok (.ifCond .eq 43, 3) := by decide +kernel
theorem dX9_expression_209 : decode cX9_expression 209 = .ok (.aload_n 0, 1) := by decide +kernel
theorem dX9_expression_210 : decode cX9_expression 210 = .ok (.getfield 278, 3) := by decide +kernel
theorem dX9_expression_213 : decode cX9_expression 213 = .ok (.iload_n 1, 1) := by decide +kernel
theorem dX9_expression_214 : decode cX9_expression 214 = .ok (.if_icmp .le 35, 3) := by decide +kernel
theorem dX9_expression_217 : decode cX9_expression 217 = .ok (.aload_n 0, 1) := by decide +kernel
theorem dX9_expression_218 : decode cX9_expression 218 = .ok (.iconst 0, 1) := by decide +kernel
theorem dX9_expression_219 : decode cX9_expression 219 = .ok (.invokevirtual 314, 3) := by decide +kernel
theorem dX9_expression_222 : decode cX9_expression 222 = .ok (.aload_n 0, 1) := by decide +kernel
theorem dX9_expression_223 : decode cX9_expression 223 = .ok (.dup, 1) := by decide +kernel
theorem dX9_expression_224 : decode cX9_expression 224 = .ok (.getfield 308, 3) := by decide +kernel
theorem dX9_expression_227 : decode cX9_expression 227 = .ok (.iconst 1, 1) := by decide +kernel
theorem dX9_expression_228 : decode cX9_expression 228 = .ok (.isub, 1) := by decide +kernel
theorem dX9_expression_229 : decode cX9_expression 229 = .ok (.putfield 308, 3) := by decide +kernel
theorem dX9_expression_232 : decode cX9_expression 232 = .ok (.aload_n 0, 1) := by decide +kernel
theorem dX9_expression_233 : decode cX9_expression 233 = .ok (.dup, 1) := by decide +kernel
theorem dX9_expression_234 : decode cX9_expression 234 = .ok (.getfield 278, 3) := by decide +kernel
theorem dX9_expression_237 : decode cX9_expression 237 = .ok (.iconst 1, 1) := by decide +kernel
theorem dX9_expression_238 : decode cX9_expression 238 = .ok (.isub, 1) := by decide +kernel
theorem dX9_expression_239 : decode cX9_expression 239 = .ok (.putfield 278, 3) := by decide +kernel
theorem dX9_expression_242 : decode cX9_expression 242 = .ok (.aload_n 0, 1) := by decide +kernel
theorem dX9_expression_243 : decode cX9_expression 243 = .ok (.invokevirtual 272, 3) := by decide +kernel
theorem dX9_expression_246 : decode cX9_expression 246 = .ok (.goto (-46), 3) := by decide +kernel
theorem dX9_expression_249 : decode cX9_expression 249 = .ok (.aload_n 0, 1) := by decide +kernel
theorem dX9_expression_250 : decode cX9_expression 250 = .ok (.bipush 8, 2) := by decide +kernel
theorem dX9_expression_252 : decode cX9_expression 252 = .ok (.invokevirtual 269, 3) := by decide +kernel
theorem dX9_expression_255 : decode cX9_expression 255 = .ok (.ifCond .ne 21, 3) := by decide +kernel
theorem dX9_expression_258 : decode cX9_expression 258 = .ok (.aload_n 0, 1) := by decide +kernel
theorem dX9_expression_259 : decode cX9_expression 259 = .ok (.bipush 9, 2) := by decide +kernel
theorem dX9_expression_261 : decode cX9_expression 261 = .ok (.invokevirtual 269, 3) := by decide +kernel
theorem dX9_expression_264 : decode cX9_expression 264 = .ok (.ifCond .ne 12, 3) := by decide +kernel
theorem dX9_expression_267 : decode cX9_expression 267 = .ok (.aload_n 0, 1) := by decide +kernel
theorem dX9_expression_268 : decode cX9_expression 268 = .ok (.bipush 10, 2) := by decide +kernel
theorem dX9_expression_270 : decode cX9_expression 270 = .ok (.invokevirtual 269, 3) := by decide +kernel
theorem dX9_expression_273 : decode cX9_expression 273 = .ok (.ifCond .eq 7, 3) := by decide +kernel
theorem dX9_expression_276 : decode cX9_expression 276 = .ok (.iconst 1, 1) := by decide +kernel
theorem dX9_expression_277 : decode cX9_expression 277 = .ok (.goto 4, 3) := by decide +kernel
theorem dX9_expression_280 : decode cX9_expression 280 = .ok (.iconst 0, 1) := by decide +kernel
theorem dX9_expression_281 : decode cX9_expression 281 = .ok (.istore_n 2, 1) := by decide +kernel
theorem dX9_expression_282 : decode cX9_expression 282 = .ok (.iload_n 2, 1) := by decide +kernel
theorem dX9_expression_283 : decode cX9_expression 283 = .ok (.ifCond .ne 22, 3) := by decide +kernel
theorem dX9_expression_286 : decode cX9_expression 286 = .ok (.aload_n 0, 1) := by decide +kernel
theorem dX9_expression_287 : decode cX9_expression 287 = .ok (.getfield 278, 3) := by decide +kernel
theorem dX9_expression_290 : decode cX9_expression 290 = .ok (.iload_n 1, 1) := by decide +kernel
theorem dX9_expression_291 : decode cX9_expression 291 = .ok (.if_icmp .le 8, 3) := by decide +kernel
theorem dX9_expression_294 : decode cX9_expression 294 = .ok (.aload_n 0, 1) := by decide +kernel
theorem dX9_expression_295 : decode cX9_expression 295 = .ok (.iconst 1, 1) := by decide +kernel
theorem dX9_expression_296 : decode cX9_expression 296 = .ok (.invokevirtual 266, 3) := by decide +kernel
theorem dX9_expression_299 : decode cX9_expression 299 = .ok (.aload_n 0, 1) := by decide +kernel
theorem dX9_expression_300 : decode cX9_expression 300 = .ok (.iconst 0, 1) := by decide +kernel
theorem dX9_expression_301 : decode cX9_expression 301 = .ok (.invokevirtual 314, 3) := by decide +kernel
theorem dX9_expression_304 : decode cX9_expression 304 = .ok (.return_, 1) := by decide +kernel
theorem dX9_expression_305 : decode cX9_expression 305 = .ok (.aload_n 0, 1) := by decide +kernel
theorem dX9_expression_306 : decode cX9_expression 306 = .ok (.getfield 20, 3) := by decide +kernel
theorem dX9_expression_309 : decode cX9_expression 309 = .ok (.aload_n 0, 1) := by decide +kernel
theorem dX9_expression_310 : decode cX9_expression 310 = .ok (.getfield 254, 3) := by decide +kernel
theorem dX9_expression_313 : decode cX9_expression 313 = .ok (.iaload, 1) := by decide +kernel
theorem dX9_expression_314 : decode cX9_expression 314 = .ok (.istore 4, 2) := by decide +kernel
theorem dX9_expression_316 : decode cX9_expression 316 = .ok (.aload_n 0, 1) := by decide +kernel
theorem dX9_expression_317 : decode cX9_expression 317 = .ok (.iload 4, 2) := by decide +kernel
theorem dX9_expression_319 : decode cX9_expression 319 = .ok (.bipush 10, 2) := by decide +kernel
theorem dX9_expression_321 : decode cX9_expression 321 = .ok (.if_icmp .ne 7, 3) := by decide +kernel
theorem dX9_expression_324 : decode cX9_expression 324 = .ok (.iconst 1, 1) := by decide +kernel
theorem dX9_expression_325 : decode cX9_expression 325 = .ok (.goto 4, 3) := by decide +kernel
theorem dX9_expression_328 : decode cX9_expression 328 = .ok (.iconst 0, 1) := by decide +kernel
theorem dX9_expression_329 : decode cX9_expression 329 = .ok (.invokevirtual 314, 3) := by decide +kernel
theorem dX9_expression_332 : decode cX9_expression 332 = .ok (.aload_n 0, 1) := by decide +kernel
theorem dX9_expression_333 : decode cX9_expression 333 = .ok (.getfield 83, 3) := by decide +kernel
theorem dX9_expression_336 : decode cX9_expression 336 = .ok (.aload_n 0, 1) := by decide +kernel
theorem dX9_expression_337 : decode cX9_expression 337 = .ok (.getfield 308, 3) := by decide +kernel
theorem dX9_expression_340 : decode cX9_expression 340 = .ok (.iload 4, 2) := by decide +kernel
theorem dX9_expression_342 : decode cX9_expression 342 = .ok (.iastore, 1) := by decide +kernel
theorem dX9_expression_343 : decode cX9_expression 343 = .ok (.aload_n 0, 1) := by decide +kernel
theorem dX9_expression_344 : decode cX9_expression 344 = .ok (.dup, 1) := by decide +kernel
theorem dX9_expression_345 : decode cX9_expression 345 = .ok (.getfield 308, 3) := by decide +kernel
theorem dX9_expression_348 : decode cX9_expression 348 = .ok (.iconst 1, 1) := by decide +kernel
theorem dX9_expression_349 : decode cX9_expression 349 = .ok (.iadd, 1) := by decide +kernel
theorem dX9_expression_350 : decode cX9_expression 350 = .ok (.putfield 308, 3) := by decide +kernel
theorem dX9_expression_353 : decode cX9_expression 353 = .ok (.aload_n 0, 1) := by decide +kernel
theorem dX9_expression_354 : decode cX9_expression 354 = .ok (.invokevirtual 272, 3) := by decide +kernel
theorem dX9_expression_357 : decode cX9_expression 357 = .ok (.goto (-345), 3) := by decide +kernel
theorem dX9_expression_360 : decode cX9_expression 360 = .ok (.return_, 1) := by decide +kernel
theorem dX9_isTick_0 : decode cX9_isTick 0 = .ok (.iload_n 0, 1) := by decide +kernel
theorem dX9_isTick_1 : decode cX9_isTick 1 = .ok (.ifCond .lt 14, 3) := by decide +kernel
theorem dX9_isTick_4 : decode cX9_isTick 4 = .ok (.iload_n 0, 1) := by decide +kernel
theorem dX9_isTick_5 : decode cX9_isTick 5 = .ok (.sipush 300, 3) := by decide +kernel
theorem dX9_isTick_8 : decode cX9_isTick 8 = .ok (.if_icmp .ge 7, 3) := by decide +kernel
theorem dX9_isTick_11 : decode cX9_isTick 11 = .ok (.iconst 1, 1) := by decide +kernel
theorem dX9_isTick_12 : decode cX9_isTick 12 = .ok (.goto 4, 3) := by decide +kernel
theorem dX9_isTick_15 : decode cX9_isTick 15 = .ok (.iconst 0, 1) := by decide +kernel
theorem dX9_isTick_16 : decode cX9_isTick 16 = .ok (.ireturn, 1) := by decide +kernel
theorem dX9_isMachine_0 : decode cX9_isMachine 0 = .ok (.iload_n 1, 1) := by decide +kernel
theorem dX9_isMachine_1 : decode cX9_isMachine 1 = .ok (.ifCond .lt 15, 3) := by decide +kernel
theorem dX9_isMachine_4 : decode cX9_isMachine 4 = .ok (.iload_n 1, 1) := by decide +kernel
theorem dX9_isMachine_5 : decode cX9_isMachine 5 = .ok (.aload_n 0, 1) := by decide +kernel
theorem dX9_isMachine_6 : decode cX9_isMachine 6 = .ok (.getfield 317, 3) := by decide +kernel
theorem dX9_isMachine_9 : decode cX9_isMachine 9 = .ok (.if_icmp .ge 7, 3) := by decide +kernel
theorem dX9_isMachine_12 : decode cX9_isMachine 12 = .ok (.iconst 1, 1) := by decide +kernel
theorem dX9_isMachine_13 : decode cX9_isMachine 13 = .ok (.goto 4, 3) := by decide +kernel
theorem dX9_isMachine_16 : decode cX9_isMachine 16 = .ok (.iconst 0, 1) := by decide +kernel
theorem dX9_isMachine_17 : decode cX9_isMachine 17 = .ok (.ireturn, 1) := by decide +kernel
theorem dX9_isFile_0 : decode cX9_isFile 0 = .ok (.iload_n 1, 1) := by decide +kernel
theorem dX9_isFile_1 : decode cX9_isFile 1 = .ok (.ifCond .lt 15, 3) := by decide +kernel
theorem dX9_isFile_4 : decode cX9_isFile 4 = .ok (.iload_n 1, 1) := by decide +kernel
theorem dX9_isFile_5 : decode cX9_isFile 5 = .ok (.aload_n 0, 1) := by decide +kernel
theorem dX9_isFile_6 : decode cX9_isFile 6 = .ok (.getfield 320, 3) := by decide +kernel
theorem dX9_isFile_9 : decode cX9_isFile 9 = .ok (.if_icmp .ge 7, 3) := by decide +kernel
theorem dX9_isFile_12 : decode cX9_isFile 12 = .ok (.iconst 1, 1) := by decide +kernel
theorem dX9_isFile_13 : decode cX9_isFile 13 = .ok (.goto 4, 3) := by decide +kernel
theorem dX9_isFile_16 : decode cX9_isFile 16 = .ok (.iconst 0, 1) := by decide +kernel
theorem dX9_isFile_17 : decode cX9_isFile 17 = .ok (.ireturn, 1) := by decide +kernel
theorem dX9_machine_0 : decode cX9_machine 0 = .ok (.aload_n 0, 1) := by decide +kernel
theorem dX9_machine_1 : decode cX9_machine 1 = .ok (.getfield 317, 3) := by decide +kernel
theorem dX9_machine_4 : decode cX9_machine 4 = .ok (.bipush 8, 2) := by decide +kernel
theorem dX9_machine_6 : decode cX9_machine 6 = .ok (.if_icmp .eq 32, 3) := by decide +kernel
theorem dX9_machine_9 : decode cX9_machine 9 = .ok (.iload_n 1, 1) := by decide +kernel
theorem dX9_machine_10 : decode cX9_machine 10 = .ok (.ifCond .lt 28, 3) := by decide +kernel
theorem dX9_machine_13 : decode cX9_machine 13 = .ok (.iload_n 1, 1) := by decide +kernel
theorem dX9_machine_14 : decode cX9_machine 14 = .ok (.iconst 3, 1) := by decide +kernel
theorem dX9_machine_15 : decode cX9_machine 15 = .ok (.if_icmp .gt 23, 3) := by decide +kernel
theorem dX9_machine_18 : decode cX9_machine 18 = .ok (.iload_n 2, 1) := by decide +kernel
theorem dX9_machine_19 : decode cX9_machine 19 = .ok (.ifCond .lt 19, 3) := by decide +kernel
theorem dX9_machine_22 : decode cX9_machine 22 = .ok (.iload_n 2, 1) := by decide +kernel
theorem dX9_machine_23 : decode cX9_machine 23 = .ok (.bipush 7, 2) := by decide +kernel
theorem dX9_machine_25 : decode cX9_machine 25 = .ok (.if_icmp .gt 13, 3) := by decide +kernel
theorem dX9_machine_28 : decode cX9_machine 28 = .ok (.iload_n 3, 1) := by decide +kernel
theorem dX9_machine_29 : decode cX9_machine 29 = .ok (.ifCond .lt 9, 3) := by decide +kernel
theorem dX9_machine_32 : decode cX9_machine 32 = .ok (.iload_n 3, 1) := by decide +kernel
theorem dX9_machine_33 : decode cX9_machine 33 = .ok (.bipush 99, 2) := by decide +kernel
theorem dX9_machine_35 : decode cX9_machine 35 = .ok (.if_icmp .le 5, 3) := by decide +kernel
theorem dX9_machine_38 : decode cX9_machine 38 = .ok (.iconst (-1), 1) := by decide +kernel
theorem dX9_machine_39 : decode cX9_machine 39 = .ok (.ireturn, 1) := by decide +kernel
theorem dX9_machine_40 : decode cX9_machine 40 = .ok (.aload_n 0, 1) := by decide +kernel
theorem dX9_machine_41 : decode cX9_machine 41 = .ok (.getfield 86, 3) := by decide +kernel
theorem dX9_machine_44 : decode cX9_machine 44 = .ok (.aload_n 0, 1) := by decide +kernel
theorem dX9_machine_45 : decode cX9_machine 45 = .ok (.getfield 317, 3) := by decide +kernel
theorem dX9_machine_48 : decode cX9_machine 48 = .ok (.iload_n 1, 1) := by decide +kernel
theorem dX9_machine_49 : decode cX9_machine 49 = .ok (.iastore, 1) := by decide +kernel
theorem dX9_machine_50 : decode cX9_machine 50 = .ok (.aload_n 0, 1) := by decide +kernel
theorem dX9_machine_51 : decode cX9_machine 51 = .ok (.getfield 89, 3) := by decide +kernel
theorem dX9_machine_54 : decode cX9_machine 54 = .ok (.aload_n 0, 1) := by decide +kernel
theorem dX9_machine_55 : decode cX9_machine 55 = .ok (.getfield 317, 3) := by decide +kernel
theorem dX9_machine_58 : decode cX9_machine 58 = .ok (.iload_n 2, 1) := by decide +kernel
theorem dX9_machine_59 : decode cX9_machine 59 = .ok (.iastore, 1) := by decide +kernel
theorem dX9_machine_60 : decode cX9_machine 60 = .ok (.aload_n 0, 1) := by decide +kernel
theorem dX9_machine_61 : decode cX9_machine 61 = .ok (.getfield 92, 3) := by decide +kernel
theorem dX9_machine_64 : decode cX9_machine 64 = .ok (.aload_n 0, 1) := by decide +kernel
theorem dX9_machine_65 : decode cX9_machine 65 = .ok (.getfield 317, 3) := by decide +kernel
theorem dX9_machine_68 : decode cX9_machine 68 = .ok (.iload_n 3, 1) := by decide +kernel
theorem dX9_machine_69 : decode cX9_machine 69 = .ok (.iastore, 1) := by decide +kernel
theorem dX9_machine_70 : decode cX9_machine 70 = .ok (.aload_n 0, 1) := by decide +kernel
theorem dX9_machine_71 : decode cX9_machine 71 = .ok (.dup, 1) := by decide +kernel
theorem dX9_machine_72 : decode cX9_machine 72 = .ok (.getfield 317, 3) := by decide +kernel
theorem dX9_machine_75 : decode cX9_machine 75 = .ok (.iconst 1, 1) := by decide +kernel
theorem dX9_machine_76 : decode cX9_machine 76 = .ok (.iadd, 1) := by decide +kernel
theorem dX9_machine_77 : decode cX9_machine 77 = .ok (.putfield 317, 3) := by decide +kernel
theorem dX9_machine_80 : decode cX9_machine 80 = .ok (.aload_n 0, 1) := by decide +kernel
theorem dX9_machine_81 : decode cX9_machine 81 = .ok (.iconst 0, 1) := by decide +kernel
theorem dX9_machine_82 : decode cX9_machine 82 = .ok (.putfield 290, 3) := by decide +kernel
theorem dX9_machine_85 : decode cX9_machine 85 = .ok (.aload_n 0, 1) := by decide +kernel
theorem dX9_machine_86 : decode cX9_machine 86 = .ok (.getfield 317, 3) := by decide +kernel
theorem dX9_machine_89 : decode cX9_machine 89 = .ok (.iconst 1, 1) := by decide +kernel
theorem dX9_machine_90 : decode cX9_machine 90 = .ok (.isub, 1) := by decide +kernel
theorem dX9_machine_91 : decode cX9_machine 91 = .ok (.ireturn, 1) := by decide +kernel
theorem dX9_file_0 : decode cX9_file 0 = .ok (.aload_n 0, 1) := by decide +kernel
theorem dX9_file_1 : decode cX9_file 1 = .ok (.getfield 320, 3) := by decide +kernel
theorem dX9_file_4 : decode cX9_file 4 = .ok (.bipush 6, 2) := by decide +kernel
theorem dX9_file_6 : decode cX9_file 6 = .ok (.if_icmp .eq 24, 3) := by decide +kernel
theorem dX9_file_9 : decode cX9_file 9 = .ok (.iload_n 1, 1) := by decide +kernel
theorem dX9_file_10 : decode cX9_file 10 = .ok (.iconst 1, 1) := by decide +kernel
theorem dX9_file_11 : decode cX9_file 11 = .ok (.if_icmp .lt 19, 3) := by decide +kernel
theorem dX9_file_14 : decode cX9_file 14 = .ok (.iload_n 1, 1) := by decide +kernel
theorem dX9_file_15 : decode cX9_file 15 = .ok (.bipush 12, 2) := by decide +kernel
theorem dX9_file_17 : decode cX9_file 17 = .ok (.if_icmp .gt 13, 3) := by decide +kernel
theorem dX9_file_20 : decode cX9_file 20 = .ok (.iload_n 2, 1) := by decide +kernel
theorem dX9_file_21 : decode cX9_file 21 = .ok (.iconst (-1), 1) := by decide +kernel
theorem dX9_file_22 : decode cX9_file 22 = .ok (.if_icmp .lt 8, 3) := by decide +kernel
theorem dX9_file_25 : decode cX9_file 25 = .ok (.iload_n 2, 1) := by decide +kernel
theorem dX9_file_26 : decode cX9_file 26 = .ok (.iconst 5, 1) := by decide +kernel
theorem dX9_file_27 : decode cX9_file 27 = .ok (.if_icmp .le 5, 3) := by decide +kernel
theorem dX9_file_30 : decode cX9_file 30 = .ok (.iconst (-1), 1) := by decide +kernel
theorem dX9_file_31 : decode cX9_file 31 = .ok (.ireturn, 1) := by decide +kernel
theorem dX9_file_32 : decode cX9_file 32 = .ok (.aload_n 0, 1) := by decide +kernel
theorem dX9_file_33 : decode cX9_file 33 = .ok (.getfield 98, 3) := by decide +kernel
theorem dX9_file_36 : decode cX9_file 36 = .ok (.aload_n 0, 1) := by decide +kernel
theorem dX9_file_37 : decode cX9_file 37 = .ok (.getfield 320, 3) := by decide +kernel
theorem dX9_file_40 : decode cX9_file 40 = .ok (.iload_n 1, 1) := by decide +kernel
theorem dX9_file_41 : decode cX9_file 41 = .ok (.iastore, 1) := by decide +kernel
theorem dX9_file_42 : decode cX9_file 42 = .ok (.aload_n 0, 1) := by decide +kernel
theorem dX9_file_43 : decode cX9_file 43 = .ok (.getfield 101, 3) := by decide +kernel
theorem dX9_file_46 : decode cX9_file 46 = .ok (.aload_n 0, 1) := by decide +kernel
theorem dX9_file_47 : decode cX9_file 47 = .ok (.getfield 320, 3) := by decide +kernel
theorem dX9_file_50 : decode cX9_file 50 = .ok (.iload_n 2, 1) := by decide +kernel
theorem dX9_file_51 : decode cX9_file 51 = .ok (.iastore, 1) := by decide +kernel
theorem dX9_file_52 : decode cX9_file 52 = .ok (.aload_n 0, 1) := by decide +kernel
theorem dX9_file_53 : decode cX9_file 53 = .ok (.dup, 1) := by decide +kernel
theorem dX9_file_54 : decode cX9_file 54 = .ok (.getfield 320, 3) := by decide +kernel
theorem dX9_file_57 : decode cX9_file 57 = .ok (.iconst 1, 1) := by decide +kernel
theorem dX9_file_58 : decode cX9_file 58 = .ok (.iadd, 1) := by decide +kernel
theorem dX9_file_59 : decode cX9_file 59 = .ok (.putfield 320, 3) := by decide +kernel
theorem dX9_file_62 : decode cX9_file 62 = .ok (.aload_n 0, 1) := by decide +kernel
theorem dX9_file_63 : decode cX9_file 63 = .ok (.iconst 0, 1) := by decide +kernel
theorem dX9_file_64 : decode cX9_file 64 = .ok (.putfield 290, 3) := by decide +kernel
theorem dX9_file_67 : decode cX9_file 67 = .ok (.aload_n 0, 1) := by decide +kernel
theorem dX9_file_68 : decode cX9_file 68 = .ok (.getfield 320, 3) := by decide +kernel
theorem dX9_file_71 : decode cX9_file 71 = .ok (.iconst 1, 1) := by decide +kernel
theorem dX9_file_72 : decode cX9_file 72 = .ok (.isub, 1) := by decide +kernel
theorem dX9_file_73 : decode cX9_file 73 = .ok (.ireturn, 1) := by decide +kernel
theorem dX9_width_0 : decode cX9_width 0 = .ok (.iload_n 1, 1) := by decide +kernel
theorem dX9_width_1 : decode cX9_width 1 = .ok (.iconst 1, 1) := by decide +kernel
theorem dX9_width_2 : decode cX9_width 2 = .ok (.if_icmp .lt 9, 3) := by decide +kernel
theorem dX9_width_5 : decode cX9_width 5 = .ok (.iload_n 1, 1) := by decide +kernel
theorem dX9_width_6 : decode cX9_width 6 = .ok (.bipush 8, 2) := by decide +kernel
theorem dX9_width_8 : decode cX9_width 8 = .ok (.if_icmp .le 5, 3) := by decide +kernel
theorem dX9_width_11 : decode cX9_width 11 = .ok (.iconst 0, 1) := by decide +kernel
theorem dX9_width_12 : decode cX9_width 12 = .ok (.ireturn, 1) := by decide +kernel
theorem dX9_width_13 : decode cX9_width 13 = .ok (.aload_n 0, 1) := by decide +kernel
theorem dX9_width_14 : decode cX9_width 14 = .ok (.iload_n 1, 1) := by decide +kernel
theorem dX9_width_15 : decode cX9_width 15 = .ok (.putfield 210, 3) := by decide +kernel
theorem dX9_width_18 : decode cX9_width 18 = .ok (.aload_n 0, 1) := by decide +kernel
theorem dX9_width_19 : decode cX9_width 19 = .ok (.iconst 0, 1) := by decide +kernel
theorem dX9_width_20 : decode cX9_width 20 = .ok (.putfield 290, 3) := by decide +kernel
theorem dX9_width_23 : decode cX9_width 23 = .ok (.iconst 1, 1) := by decide +kernel
theorem dX9_width_24 : decode cX9_width 24 = .ok (.ireturn, 1) := by decide +kernel
theorem dX9_wake_0 : decode cX9_wake 0 = .ok (.iload_n 1, 1) := by decide +kernel
theorem dX9_wake_1 : decode cX9_wake 1 = .ok (.ifCond .lt 15, 3) := by decide +kernel
theorem dX9_wake_4 : decode cX9_wake 4 = .ok (.iload_n 1, 1) := by decide +kernel
theorem dX9_wake_5 : decode cX9_wake 5 = .ok (.iconst 3, 1) := by decide +kernel
theorem dX9_wake_6 : decode cX9_wake 6 = .ok (.if_icmp .gt 10, 3) := by decide +kernel
theorem dX9_wake_9 : decode cX9_wake 9 = .ok (.iload_n 2, 1) := by decide +kernel
theorem dX9_wake_10 : decode cX9_wake 10 = .ok (.invokestatic 323, 3) := by decide +kernel
theorem dX9_wake_13 : decode cX9_wake 13 = .ok (.ifCond .ne 5, 3) := by decide +kernel
theorem dX9_wake_16 : decode cX9_wake 16 = .ok (.iconst 0, 1) := by decide +kernel
theorem dX9_wake_17 : decode cX9_wake 17 = .ok (.ireturn, 1) := by decide +kernel
theorem dX9_wake_18 : decode cX9_wake 18 = .ok (.aload_n 0, 1) := by decide +kernel
theorem dX9_wake_19 : decode cX9_wake 19 = .ok (.getfield 95, 3) := by decide +kernel
theorem dX9_wake_22 : decode cX9_wake 22 = .ok (.iload_n 1, 1) := by decide +kernel
theorem dX9_wake_23 : decode cX9_wake 23 = .ok (.iload_n 2, 1) := by decide +kernel
theorem dX9_wake_24 : decode cX9_wake 24 = .ok (.iastore, 1) := by decide +kernel
theorem dX9_wake_25 : decode cX9_wake 25 = .ok (.aload_n 0, 1) := by decide +kernel
theorem dX9_wake_26 : decode cX9_wake 26 = .ok (.iconst 0, 1) := by decide +kernel
theorem dX9_wake_27 : decode cX9_wake 27 = .ok (.putfield 290, 3) := by decide +kernel
theorem dX9_wake_30 : decode cX9_wake 30 = .ok (.iconst 1, 1) := by decide +kernel
theorem dX9_wake_31 : decode cX9_wake 31 = .ok (.ireturn, 1) := by decide +kernel
theorem dX9_fact_0 : decode cX9_fact 0 = .ok (.aload_n 0, 1) := by decide +kernel
theorem dX9_fact_1 : decode cX9_fact 1 = .ok (.dup, 1) := by decide +kernel
theorem dX9_fact_2 : decode cX9_fact 2 = .ok (.getfield 326, 3) := by decide +kernel
theorem dX9_fact_5 : decode cX9_fact 5 = .ok (.iconst 1, 1) := by decide +kernel
theorem dX9_fact_6 : decode cX9_fact 6 = .ok (.iadd, 1) := by decide +kernel
theorem dX9_fact_7 : decode cX9_fact 7 = .ok (.putfield 326, 3) := by decide +kernel
theorem dX9_fact_10 : decode cX9_fact 10 = .ok (.aload_n 0, 1) := by decide +kernel
theorem dX9_fact_11 : decode cX9_fact 11 = .ok (.iconst 0, 1) := by decide +kernel
theorem dX9_fact_12 : decode cX9_fact 12 = .ok (.putfield 290, 3) := by decide +kernel
theorem dX9_fact_15 : decode cX9_fact 15 = .ok (.aload_n 0, 1) := by decide +kernel
theorem dX9_fact_16 : decode cX9_fact 16 = .ok (.getfield 326, 3) := by decide +kernel
theorem dX9_fact_19 : decode cX9_fact 19 = .ok (.iconst 1, 1) := by decide +kernel
theorem dX9_fact_20 : decode cX9_fact 20 = .ok (.isub, 1) := by decide +kernel
theorem dX9_fact_21 : decode cX9_fact 21 = .ok (.ireturn, 1) := by decide +kernel
theorem dX9_lose_0 : decode cX9_lose 0 = .ok (.aload_n 0, 1) := by decide +kernel
theorem dX9_lose_1 : decode cX9_lose 1 = .ok (.getfield 326, 3) := by decide +kernel
theorem dX9_lose_4 : decode cX9_lose 4 = .ok (.sipush 200, 3) := by decide +kernel
theorem dX9_lose_7 : decode cX9_lose 7 = .ok (.if_icmp .eq 18, 3) := by decide +kernel
theorem dX9_lose_10 : decode cX9_lose 10 = .ok (.aload_n 0, 1) := by decide +kernel
theorem dX9_lose_11 : decode cX9_lose 11 = .ok (.iload_n 1, 1) := by decide +kernel
theorem dX9_lose_12 : decode cX9_lose 12 = .ok (.invokevirtual 329, 3) := by decide +kernel
theorem dX9_lose_15 : decode cX9_lose 15 = .ok (.ifCond .eq 10, 3) := by decide +kernel
theorem dX9_lose_18 : decode cX9_lose 18 = .ok (.iload_n 2, 1) := by decide +kernel
theorem dX9_lose_19 : decode cX9_lose 19 = .ok (.invokestatic 323, 3) := by decide +kernel
theorem dX9_lose_22 : decode cX9_lose 22 = .ok (.ifCond .ne 5, 3) := by decide +kernel
theorem dX9_lose_25 : decode cX9_lose 25 = .ok (.iconst (-1), 1) := by decide +kernel
theorem dX9_lose_26 : decode cX9_lose 26 = .ok (.ireturn, 1) := by decide +kernel
theorem dX9_lose_27 : decode cX9_lose 27 = .ok (.aload_n 0, 1) := by decide +kernel
theorem dX9_lose_28 : decode cX9_lose 28 = .ok (.getfield 104, 3) := by decide +kernel
theorem dX9_lose_31 : decode cX9_lose 31 = .ok (.sipush 300, 3) := by decide +kernel
theorem dX9_lose_34 : decode cX9_lose 34 = .ok (.iload_n 1, 1) := by decide +kernel
theorem dX9_lose_35 : decode cX9_lose 35 = .ok (.imul, 1) := by decide +kernel
theorem dX9_lose_36 : decode cX9_lose 36 = .ok (.iload_n 2, 1) := by decide +kernel
theorem dX9_lose_37 : decode cX9_lose 37 = .ok (.iadd, 1) := by decide +kernel
theorem dX9_lose_38 : decode cX9_lose 38 = .ok (.iconst 1, 1) := by decide +kernel
theorem dX9_lose_39 : decode cX9_lose 39 = .ok (.bastore, 1) := by decide +kernel
theorem dX9_lose_40 : decode cX9_lose 40 = .ok (.aload_n 0, 1) := by decide +kernel
theorem dX9_lose_41 : decode cX9_lose 41 = .ok (.invokevirtual 332, 3) := by decide +kernel
theorem dX9_lose_44 : decode cX9_lose 44 = .ok (.ireturn, 1) := by decide +kernel
theorem dX9_spoil_0 : decode cX9_spoil 0 = .ok (.aload_n 0, 1) := by decide +kernel
theorem dX9_spoil_1 : decode cX9_spoil 1 = .ok (.getfield 326, 3) := by decide +kernel
theorem dX9_spoil_4 : decode cX9_spoil 4 = .ok (.sipush 200, 3) := by decide +kernel
theorem dX9_spoil_7 : decode cX9_spoil 7 = .ok (.if_icmp .eq 32, 3) := by decide +kernel
theorem dX9_spoil_10 : decode cX9_spoil 10 = .ok (.aload_n 0, 1) := by decide +kernel
theorem dX9_spoil_11 : decode cX9_spoil 11 = .ok (.iload_n 1, 1) := by decide +kernel
theorem dX9_spoil_12 : decode cX9_spoil 12 = .ok (.invokevirtual 336, 3) := by decide +kernel
theorem dX9_spoil_15 : decode cX9_spoil 15 = .ok (.ifCond .eq 24, 3) := by decide +kernel
theorem dX9_spoil_18 : decode cX9_spoil 18 = .ok (.iload_n 2, 1) := by decide +kernel
theorem dX9_spoil_19 : decode cX9_spoil 19 = .ok (.ifCond .lt 20, 3) := by decide +kernel
theorem dX9_spoil_22 : decode cX9_spoil 22 = .ok (.iload_n 2, 1) := by decide +kernel
theorem dX9_spoil_23 : decode cX9_spoil 23 = .ok (.aload_n 0, 1) := by decide +kernel
theorem dX9_spoil_24 : decode cX9_spoil 24 = .ok (.getfield 98, 3) := by decide +kernel
theorem dX9_spoil_27 : decode cX9_spoil 27 = .ok (.iload_n 1, 1) := by decide +kernel
theorem dX9_spoil_28 : decode cX9_spoil 28 = .ok (.iaload, 1) := by decide +kernel
theorem dX9_spoil_29 : decode cX9_spoil 29 = .ok (.if_icmp .ge 10, 3) := by decide +kernel
theorem dX9_spoil_32 : decode cX9_spoil 32 = .ok (.iload_n 3, 1) := by decide +kernel
theorem dX9_spoil_33 : decode cX9_spoil 33 = .ok (.invokestatic 323, 3) := by decide +kernel
theorem dX9_spoil_36 : decode cX9_spoil 36 = .ok (.ifCond .ne 5, 3) := by decide +kernel
theorem dX9_spoil_39 : decode cX9_spoil 39 = .ok (.iconst (-1), 1) := by decide +kernel
theorem dX9_spoil_40 : decode cX9_spoil 40 = .ok (.ireturn, 1) := by decide +kernel
theorem dX9_spoil_41 : decode cX9_spoil 41 = .ok (.aload_n 0, 1) := by decide +kernel
theorem dX9_spoil_42 : decode cX9_spoil 42 = .ok (.getfield 113, 3) := by decide +kernel
theorem dX9_spoil_45 : decode cX9_spoil 45 = .ok (.sipush 300, 3) := by decide +kernel
theorem dX9_spoil_48 : decode cX9_spoil 48 = .ok (.bipush 12, 2) := by decide +kernel
theorem dX9_spoil_50 : decode cX9_spoil 50 = .ok (.iload_n 1, 1) := by decide +kernel
theorem dX9_spoil_51 : decode cX9_spoil 51 = .ok (.imul, 1) := by decide +kernel
theorem dX9_spoil_52 : decode cX9_spoil 52 = .ok (.iload_n 2, 1) := by decide +kernel
theorem dX9_spoil_53 : decode cX9_spoil 53 = .ok (.iadd, 1) := by decide +kernel
theorem dX9_spoil_54 : decode cX9_spoil 54 = .ok (.imul, 1) := by decide +kernel
theorem dX9_spoil_55 : decode cX9_spoil 55 = .ok (.iload_n 3, 1) := by decide +kernel
theorem dX9_spoil_56 : decode cX9_spoil 56 = .ok (.iadd, 1) := by decide +kernel
theorem dX9_spoil_57 : decode cX9_spoil 57 = .ok (.iconst 1, 1) := by decide +kernel
theorem dX9_spoil_58 : decode cX9_spoil 58 = .ok (.bastore, 1) := by decide +kernel
theorem dX9_spoil_59 : decode cX9_spoil 59 = .ok (.aload_n 0, 1) := by decide +kernel
theorem dX9_spoil_60 : decode cX9_spoil 60 = .ok (.invokevirtual 332, 3) := by decide +kernel
theorem dX9_spoil_63 : decode cX9_spoil 63 = .ok (.ireturn, 1) := by decide +kernel
theorem dX9_down_0 : decode cX9_down 0 = .ok (.aload_n 0, 1) := by decide +kernel
theorem dX9_down_1 : decode cX9_down 1 = .ok (.getfield 326, 3) := by decide +kernel
theorem dX9_down_4 : decode cX9_down 4 = .ok (.sipush 200, 3) := by decide +kernel
theorem dX9_down_7 : decode cX9_down 7 = .ok (.if_icmp .eq 28, 3) := by decide +kernel
theorem dX9_down_10 : decode cX9_down 10 = .ok (.iload_n 1, 1) := by decide +kernel
theorem dX9_down_11 : decode cX9_down 11 = .ok (.ifCond .lt 24, 3) := by decide +kernel
theorem dX9_down_14 : decode cX9_down 14 = .ok (.iload_n 1, 1) := by decide +kernel
theorem dX9_down_15 : decode cX9_down 15 = .ok (.iconst 1, 1) := by decide +kernel
theorem dX9_down_16 : decode cX9_down 16 = .ok (.if_icmp .gt 19, 3) := by decide +kernel
theorem dX9_down_19 : decode cX9_down 19 = .ok (.iload_n 2, 1) := by decide +kernel
theorem dX9_down_20 : decode cX9_down 20 = .ok (.ifCond .lt 15, 3) := by decide +kernel
theorem dX9_down_23 : decode cX9_down 23 = .ok (.iload_n 2, 1) := by decide +kernel
theorem dX9_down_24 : decode cX9_down 24 = .ok (.iload_n 3, 1) := by decide +kernel
theorem dX9_down_25 : decode cX9_down 25 = .ok (.if_icmp .ge 10, 3) := by decide +kernel
theorem dX9_down_28 : decode cX9_down 28 = .ok (.iload_n 3, 1) := by decide +kernel
theorem dX9_down_29 : decode cX9_down 29 = .ok (.sipush 300, 3) := by decide +kernel
theorem dX9_down_32 : decode cX9_down 32 = .ok (.if_icmp .le 5, 3) := by decide +kernel
theorem dX9_down_35 : decode cX9_down 35 = .ok (.iconst (-1), 1) := by decide +kernel
theorem dX9_down_36 : decode cX9_down 36 = .ok (.ireturn, 1) := by decide +kernel
theorem dX9_down_37 : decode cX9_down 37 = .ok (.iload_n 2, 1) := by decide +kernel
theorem dX9_down_38 : decode cX9_down 38 = .ok (.istore 4, 2) := by decide +kernel
theorem dX9_down_40 : decode cX9_down 40 = .ok (.iload 4, 2) := by decide +kernel
theorem dX9_down_42 : decode cX9_down 42 = .ok (.iload_n 3, 1) := by decide +kernel
theorem dX9_down_43 : decode cX9_down 43 = .ok (.if_icmp .ge 23, 3) := by decide +kernel
theorem dX9_down_46 : decode cX9_down 46 = .ok (.aload_n 0, 1) := by decide +kernel
theorem dX9_down_47 : decode cX9_down 47 = .ok (.getfield 110, 3) := by decide +kernel
theorem dX9_down_50 : decode cX9_down 50 = .ok (.sipush 300, 3) := by decide +kernel
theorem dX9_down_53 : decode cX9_down 53 = .ok (.iload_n 1, 1) := by decide +kernel
theorem dX9_down_54 : decode cX9_down 54 = .ok (.imul, 1) := by decide +kernel
theorem dX9_down_55 : decode cX9_down 55 = .ok (.iload 4, 2) := by decide +kernel
theorem dX9_down_57 : decode cX9_down 57 = .ok (.iadd, 1) := by decide +kernel
theorem dX9_down_58 : decode cX9_down 58 = .ok (.iconst 1, 1) := by decide +kernel
theorem dX9_down_59 : decode cX9_down 59 = .ok (.bastore, 1) := by decide +kernel
theorem dX9_down_60 : decode cX9_down 60 = .ok (.iinc 4 1, 3) := by decide +kernel
theorem dX9_down_63 : decode cX9_down 63 = .ok (.goto (-23), 3) := by decide +kernel
theorem dX9_down_66 : decode cX9_down 66 = .ok (.aload_n 0, 1) := by decide +kernel
theorem dX9_down_67 : decode cX9_down 67 = .ok (.invokevirtual 332, 3) := by decide +kernel
theorem dX9_down_70 : decode cX9_down 70 = .ok (.ireturn, 1) := by decide +kernel
theorem dX9_cut__0 : decode cX9_cut_ 0 = .ok (.aload_n 0, 1) := by decide +kernel
theorem dX9_cut__1 : decode cX9_cut_ 1 = .ok (.getfield 326, 3) := by decide +kernel
theorem dX9_cut__4 : decode cX9_cut_ 4 = .ok (.sipush 200, 3) := by decide +kernel
theorem dX9_cut__7 : decode cX9_cut_ 7 = .ok (.if_icmp .eq 18, 3) := by decide +kernel
theorem dX9_cut__10 : decode cX9_cut_ 10 = .ok (.aload_n 0, 1) := by decide +kernel
theorem dX9_cut__11 : decode cX9_cut_ 11 = .ok (.iload_n 1, 1) := by decide +kernel
theorem dX9_cut__12 : decode cX9_cut_ 12 = .ok (.invokevirtual 329, 3) := by decide +kernel
theorem dX9_cut__15 : decode cX9_cut_ 15 = .ok (.ifCond .eq 10, 3) := by decide +kernel
theorem dX9_cut__18 : decode cX9_cut_ 18 = .ok (.iload_n 2, 1) := by decide +kernel
theorem dX9_cut__19 : decode cX9_cut_ 19 = .ok (.invokestatic 323, 3) := by decide +kernel
theorem dX9_cut__22 : decode cX9_cut_ 22 = .ok (.ifCond .ne 5, 3) := by decide +kernel
theorem dX9_cut__25 : decode cX9_cut_ 25 = .ok (.iconst (-1), 1) := by decide +kernel
theorem dX9_cut__26 : decode cX9_cut_ 26 = .ok (.ireturn, 1) := by decide +kernel
theorem dX9_cut__27 : decode cX9_cut_ 27 = .ok (.aload_n 0, 1) := by decide +kernel
theorem dX9_cut__28 : decode cX9_cut_ 28 = .ok (.getfield 107, 3) := by decide +kernel
theorem dX9_cut__31 : decode cX9_cut_ 31 = .ok (.sipush 300, 3) := by decide +kernel
theorem dX9_cut__34 : decode cX9_cut_ 34 = .ok (.iload_n 1, 1) := by decide +kernel
theorem dX9_cut__35 : decode cX9_cut_ 35 = .ok (.imul, 1) := by decide +kernel
theorem dX9_cut__36 : decode cX9_cut_ 36 = .ok (.iload_n 2, 1) := by decide +kernel
theorem dX9_cut__37 : decode cX9_cut_ 37 = .ok (.iadd, 1) := by decide +kernel
theorem dX9_cut__38 : decode cX9_cut_ 38 = .ok (.iconst 1, 1) := by decide +kernel
theorem dX9_cut__39 : decode cX9_cut_ 39 = .ok (.bastore, 1) := by decide +kernel
theorem dX9_cut__40 : decode cX9_cut_ 40 = .ok (.aload_n 0, 1) := by decide +kernel
theorem dX9_cut__41 : decode cX9_cut_ 41 = .ok (.invokevirtual 332, 3) := by decide +kernel
theorem dX9_cut__44 : decode cX9_cut_ 44 = .ok (.ireturn, 1) := by decide +kernel
theorem dX9_asks_0 : decode cX9_asks 0 = .ok (.aload_n 0, 1) := by decide +kernel
theorem dX9_asks_1 : decode cX9_asks 1 = .ok (.getfield 116, 3) := by decide +kernel
theorem dX9_asks_4 : decode cX9_asks 4 = .ok (.iconst 0, 1) := by decide +kernel
theorem dX9_asks_5 : decode cX9_asks 5 = .ok (.aload_n 0, 1) := by decide +kernel
theorem dX9_asks_6 : decode cX9_asks 6 = .ok (.getfield 86, 3) := by decide +kernel
theorem dX9_asks_9 : decode cX9_asks 9 = .ok (.iload_n 1, 1) := by decide +kernel
theorem dX9_asks_10 : decode cX9_asks 10 = .ok (.iaload, 1) := by decide +kernel
theorem dX9_asks_11 : decode cX9_asks 11 = .ok (.iastore, 1) := by decide +kernel
theorem dX9_asks_12 : decode cX9_asks 12 = .ok (.aload_n 0, 1) := by decide +kernel
theorem dX9_asks_13 : decode cX9_asks 13 = .ok (.getfield 116, 3) := by decide +kernel
theorem dX9_asks_16 : decode cX9_asks 16 = .ok (.iconst 1, 1) := by decide +kernel
theorem dX9_asks_17 : decode cX9_asks 17 = .ok (.aload_n 0, 1) := by decide +kernel
theorem dX9_asks_18 : decode cX9_asks 18 = .ok (.getfield 89, 3) := by decide +kernel
theorem dX9_asks_21 : decode cX9_asks 21 = .ok (.iload_n 1, 1) := by decide +kernel
theorem dX9_asks_22 : decode cX9_asks 22 = .ok (.iaload, 1) := by decide +kernel
theorem dX9_asks_23 : decode cX9_asks 23 = .ok (.iastore, 1) := by decide +kernel
theorem dX9_asks_24 : decode cX9_asks 24 = .ok (.aload_n 0, 1) := by decide +kernel
theorem dX9_asks_25 : decode cX9_asks 25 = .ok (.getfield 116, 3) := by decide +kernel
theorem dX9_asks_28 : decode cX9_asks 28 = .ok (.iconst 2, 1) := by decide +kernel
theorem dX9_asks_29 : decode cX9_asks 29 = .ok (.aload_n 0, 1) := by decide +kernel
theorem dX9_asks_30 : decode cX9_asks 30 = .ok (.getfield 92, 3) := by decide +kernel
theorem dX9_asks_33 : decode cX9_asks 33 = .ok (.iload_n 1, 1) := by decide +kernel
theorem dX9_asks_34 : decode cX9_asks 34 = .ok (.iaload, 1) := by decide +kernel
theorem dX9_asks_35 : decode cX9_asks 35 = .ok (.iastore, 1) := by decide +kernel
theorem dX9_asks_36 : decode cX9_asks 36 = .ok (.aload_n 0, 1) := by decide +kernel
theorem dX9_asks_37 : decode cX9_asks 37 = .ok (.getfield 116, 3) := by decide +kernel
theorem dX9_asks_40 : decode cX9_asks 40 = .ok (.iconst 3, 1) := by decide +kernel
theorem dX9_asks_41 : decode cX9_asks 41 = .ok (.iload_n 2, 1) := by decide +kernel
theorem dX9_asks_42 : decode cX9_asks 42 = .ok (.iastore, 1) := by decide +kernel
theorem dX9_asks_43 : decode cX9_asks 43 = .ok (.aload_n 0, 1) := by decide +kernel
theorem dX9_asks_44 : decode cX9_asks 44 = .ok (.getfield 116, 3) := by decide +kernel
theorem dX9_asks_47 : decode cX9_asks 47 = .ok (.iconst 4, 1) := by decide +kernel
theorem dX9_asks_48 : decode cX9_asks 48 = .ok (.iload_n 3, 1) := by decide +kernel
theorem dX9_asks_49 : decode cX9_asks 49 = .ok (.iastore, 1) := by decide +kernel
theorem dX9_asks_50 : decode cX9_asks 50 = .ok (.aload_n 0, 1) := by decide +kernel
theorem dX9_asks_51 : decode cX9_asks 51 = .ok (.getfield 116, 3) := by decide +kernel
theorem dX9_asks_54 : decode cX9_asks 54 = .ok (.iconst 5, 1) := by decide +kernel
theorem dX9_asks_55 : decode cX9_asks 55 = .ok (.iload 4, 2) := by decide +kernel
theorem dX9_asks_57 : decode cX9_asks 57 = .ok (.iastore, 1) := by decide +kernel
theorem dX9_asks_58 : decode cX9_asks 58 = .ok (.aload_n 0, 1) := by decide +kernel
theorem dX9_asks_59 : decode cX9_asks 59 = .ok (.getfield 116, 3) := by decide +kernel
theorem dX9_asks_62 : decode cX9_asks 62 = .ok (.bipush 6, 2) := by decide +kernel
theorem dX9_asks_64 : decode cX9_asks 64 = .ok (.iload 5, 2) := by decide +kernel
theorem dX9_asks_66 : decode cX9_asks 66 = .ok (.iastore, 1) := by decide +kernel
theorem dX9_asks_67 : decode cX9_asks 67 = .ok (.return_, 1) := by decide +kernel
theorem dX9_value_0 : decode cX9_value 0 = .ok (.iconst 0, 1) := by decide +kernel
theorem dX9_value_1 : decode cX9_value 1 = .ok (.istore_n 3, 1) := by decide +kernel
theorem dX9_value_2 : decode cX9_value 2 = .ok (.iload_n 1, 1) := by decide +kernel
theorem dX9_value_3 : decode cX9_value 3 = .ok (.istore 4, 2) := by decide +kernel
theorem dX9_value_5 : decode cX9_value 5 = .ok (.iload 4, 2) := by decide +kernel
theorem dX9_value_7 : decode cX9_value 7 = .ok (.iload_n 2, 1) := by decide +kernel
theorem dX9_value_8 : decode cX9_value 8 = .ok (.if_icmp .ge 136, 3) := by decide +kernel
theorem dX9_value_11 : decode cX9_value 11 = .ok (.aload_n 0, 1) := by decide +kernel
theorem dX9_value_12 : decode cX9_value 12 = .ok (.getfield 77, 3) := by decide +kernel
theorem dX9_value_15 : decode cX9_value 15 = .ok (.iload 4, 2) := by decide +kernel
theorem dX9_value_17 : decode cX9_value 17 = .ok (.iaload, 1) := by decide +kernel
theorem dX9_value_18 : decode cX9_value 18 = .ok (.iconst 2, 1) := by decide +kernel
theorem dX9_value_19 : decode cX9_value 19 = .ok (.if_icmp .ge 47, 3) := by decide +kernel
theorem dX9_value_22 : decode cX9_value 22 = .ok (.aload_n 0, 1) := by decide +kernel
theorem dX9_value_23 : decode cX9_value 23 = .ok (.getfield 119, 3) := by decide +kernel
theorem dX9_value_26 : decode cX9_value 26 = .ok (.iload_n 3, 1) := by decide +kernel
theorem dX9_value_27 : decode cX9_value 27 = .ok (.aload_n 0, 1) := by decide +kernel
theorem dX9_value_28 : decode cX9_value 28 = .ok (.getfield 77, 3) := by decide +kernel
theorem dX9_value_31 : decode cX9_value 31 = .ok (.iload 4, 2) := by decide +kernel
theorem dX9_value_33 : decode cX9_value 33 = .ok (.iaload, 1) := by decide +kernel
theorem dX9_value_34 : decode cX9_value 34 = .ok (.ifCond .ne 13, 3) := by decide +kernel
theorem dX9_value_37 : decode cX9_value 37 = .ok (.aload_n 0, 1) := by decide +kernel
theorem dX9_value_38 : decode cX9_value 38 = .ok (.getfield 80, 3) := by decide +kernel
theorem dX9_value_41 : decode cX9_value 41 = .ok (.iload 4, 2) := by decide +kernel
theorem dX9_value_43 : decode cX9_value 43 = .ok (.iaload, 1) := by decide +kernel
theorem dX9_value_44 : decode cX9_value 44 = .ok (.goto 15, 3) := by decide +kernel
theorem dX9_value_47 : decode cX9_value 47 = .ok (.aload_n 0, 1) := by decide +kernel
theorem dX9_value_48 : decode cX9_value 48 = .ok (.getfield 116, 3) := by decide +kernel
theorem dX9_value_51 : decode cX9_value 51 = .ok (.aload_n 0, 1) := by decide +kernel
theorem dX9_value_52 : decode cX9_value 52 = .ok (.getfield 80, 3) := by decide +kernel
theorem dX9_value_55 : decode cX9_value 55 = .ok (.iload 4, 2) := by decide +kernel
theorem dX9_value_57 : decode cX9_value 57 = .ok (.iaload, 1) := by decide +kernel
theorem dX9_value_58 : decode cX9_value 58 = .ok (.iaload, 1) := by decide +kernel
theorem dX9_value_59 : decode cX9_value 59 = .ok (.iastore, 1) := by decide +kernel
theorem dX9_value_60 : decode cX9_value 60 = .ok (.iinc 3 1, 3) := by decide +kernel
theorem dX9_value_63 : decode cX9_value 63 = .ok (.goto 75, 3) := by decide +kernel
theorem dX9_value_66 : decode cX9_value 66 = .ok (.iinc 3 (-1), 3) := by decide +kernel
theorem dX9_value_69 : decode cX9_value 69 = .ok (.aload_n 0, 1) := by decide +kernel
theorem dX9_value_70 : decode cX9_value 70 = .ok (.getfield 119, 3) := by decide +kernel
theorem dX9_value_73 : decode cX9_value 73 = .ok (.iload_n 3, 1) := by decide +kernel
theorem dX9_value_74 : decode cX9_value 74 = .ok (.iconst 1, 1) := by decide +kernel
theorem dX9_value_75 : decode cX9_value 75 = .ok (.isub, 1) := by decide +kernel
theorem dX9_value_76 : decode cX9_value 76 = .ok (.iaload, 1) := by decide +kernel
theorem dX9_value_77 : decode cX9_value 77 = .ok (.istore 5, 2) := by decide +kernel
theorem dX9_value_79 : decode cX9_value 79 = .ok (.aload_n 0, 1) := by decide +kernel
theorem dX9_value_80 : decode cX9_value 80 = .ok (.getfield 119, 3) := by decide +kernel
theorem dX9_value_83 : decode cX9_value 83 = .ok (.iload_n 3, 1) := by decide +kernel
theorem dX9_value_84 : decode cX9_value 84 = .ok (.iaload, 1) := by decide +kernel
theorem dX9_value_85 : decode cX9_value 85 = .ok (.istore 6, 2) := by decide +kernel
theorem dX9_value_87 : decode cX9_value 87 = .ok (.aload_n 0, 1) := by decide +kernel
theorem dX9_value_88 : decode cX9_value 88 = .ok (.getfield 119, 3) := by decide +kernel
theorem dX9_value_91 : decode cX9_value 91 = .ok (.iload_n 3, 1) := by decide +kernel
theorem dX9_value_92 : decode cX9_value 92 = .ok (.iconst 1, 1) := by decide +kernel
theorem dX9_value_93 : decode cX9_value 93 = .ok (.isub, 1) := by decide +kernel
theorem dX9_value_94 : decode cX9_value 94 = .ok (.aload_n 0, 1) := by decide +kernel
theorem dX9_value_95 : decode cX9_value 95 = .ok (.getfield 77, 3) := by decide +kernel
theorem dX9_value_98 : decode cX9_value 98 = .ok (.iload 4, 2) := by decide +kernel
theorem dX9_value_100 : decode cX9_value 100 = .ok (.iaload, 1) := by decide +kernel
theorem dX9_value_101 : decode cX9_value 101 = .ok (.iconst 2, 1) := by decide +kernel
theorem dX9_value_102 : decode cX9_value 102 = .ok (.if_icmp .ne 11, 3) := by decide +kernel
theorem dX9_value_105 : decode cX9_value 105 = .ok (.iload 5, 2) := by decide +kernel
theorem dX9_value_107 : decode cX9_value 107 = .ok (.iload 6, 2) := by decide +kernel
theorem dX9_value_109 : decode cX9_value 109 = .ok (.iadd, 1) := by decide +kernel
theorem dX9_value_110 : decode cX9_value 110 = .ok (.goto 27, 3) := by decide +kernel
theorem dX9_value_113 : decode cX9_value 113 = .ok (.aload_n 0, 1) := by decide +kernel
theorem dX9_value_114 : decode cX9_value 114 = .ok (.getfield 77, 3) := by decide +kernel
theorem dX9_value_117 : decode cX9_value 117 = .ok (.iload 4, 2) := by decide +kernel
theorem dX9_value_119 : decode cX9_value 119 = .ok (.iaload, 1) := by decide +kernel
theorem dX9_value_120 : decode cX9_value 120 = .ok (.iconst 3, 1) := by decide +kernel
theorem dX9_value_121 : decode cX9_value 121 = .ok (.if_icmp .ne 11, 3) := by decide +kernel
theorem dX9_value_124 : decode cX9_value 124 = .ok (.iload 5, 2) := by decide +kernel
theorem dX9_value_126 : decode cX9_value 126 = .ok (.iload 6, 2) := by decide +kernel
theorem dX9_value_128 : decode cX9_value 128 = .ok (.isub, 1) := by decide +kernel
theorem dX9_value_129 : decode cX9_value 129 = .ok (.goto 8, 3) := by decide +kernel
theorem dX9_value_132 : decode cX9_value 132 = .ok (.iload 5, 2) := by decide +kernel
theorem dX9_value_134 : decode cX9_value 134 = .ok (.iload 6, 2) := by decide +kernel
theorem dX9_value_136 : decode cX9_value 136 = .ok (.imul, 1) := by decide +kernel
theorem dX9_value_137 : decode cX9_value 137 = .ok (.iastore, 1) := by decide +kernel
theorem dX9_value_138 : decode cX9_value 138 = .ok (.iinc 4 1, 3) := by decide +kernel
theorem dX9_value_141 : decode cX9_value 141 = .ok (.goto (-136), 3) := by decide +kernel
theorem dX9_value_144 : decode cX9_value 144 = .ok (.aload_n 0, 1) := by decide +kernel
theorem dX9_value_145 : decode cX9_value 145 = .ok (.getfield 119, 3) := by decide +kernel
theorem dX9_value_148 : decode cX9_value 148 = .ok (.iconst 0, 1) := by decide +kernel
theorem dX9_value_149 : decode cX9_value 149 = .ok (.iaload, 1) := by decide +kernel
theorem dX9_value_150 : decode cX9_value 150 = .ok (.ireturn, 1) := by decide +kernel
theorem dX9_holds_0 : decode cX9_holds 0 = .ok (.aload_n 0, 1) := by decide +kernel
theorem dX9_holds_1 : decode cX9_holds 1 = .ok (.getfield 52, 3) := by decide +kernel
theorem dX9_holds_4 : decode cX9_holds 4 = .ok (.iload_n 1, 1) := by decide +kernel
theorem dX9_holds_5 : decode cX9_holds 5 = .ok (.iaload, 1) := by decide +kernel
theorem dX9_holds_6 : decode cX9_holds 6 = .ok (.aload_n 0, 1) := by decide +kernel
theorem dX9_holds_7 : decode cX9_holds 7 = .ok (.getfield 55, 3) := by decide +kernel
theorem dX9_holds_10 : decode cX9_holds 10 = .ok (.iload_n 1, 1) := by decide +kernel
theorem dX9_holds_11 : decode cX9_holds 11 = .ok (.iaload, 1) := by decide +kernel
theorem dX9_holds_12 : decode cX9_holds 12 = .ok (.if_icmp .ne 5, 3) := by decide +kernel
theorem dX9_holds_15 : decode cX9_holds 15 = .ok (.iconst 1, 1) := by decide +kernel
theorem dX9_holds_16 : decode cX9_holds 16 = .ok (.ireturn, 1) := by decide +kernel
theorem dX9_holds_17 : decode cX9_holds 17 = .ok (.iconst 0, 1) := by decide +kernel
theorem dX9_holds_18 : decode cX9_holds 18 = .ok (.istore_n 3, 1) := by decide +kernel
theorem dX9_holds_19 : decode cX9_holds 19 = .ok (.aload_n 0, 1) := by decide +kernel
theorem dX9_holds_20 : decode cX9_holds 20 = .ok (.getfield 52, 3) := by decide +kernel
theorem dX9_holds_23 : decode cX9_holds 23 = .ok (.iload_n 1, 1) := by decide +kernel
theorem dX9_holds_24 : decode cX9_holds 24 = .ok (.iaload, 1) := by decide +kernel
theorem dX9_holds_25 : decode cX9_holds 25 = .ok (.istore 4, 2) := by decide +kernel
theorem dX9_holds_27 : decode cX9_holds 27 = .ok (.iload 4, 2) := by decide +kernel
theorem dX9_holds_29 : decode cX9_holds 29 = .ok (.aload_n 0, 1) := by decide +kernel
theorem dX9_holds_30 : decode cX9_holds 30 = .ok (.getfield 55, 3) := by decide +kernel
theorem dX9_holds_33 : decode cX9_holds 33 = .ok (.iload_n 1, 1) := by decide +kernel
theorem dX9_holds_34 : decode cX9_holds 34 = .ok (.iaload, 1) := by decide +kernel
theorem dX9_holds_35 : decode cX9_holds 35 = .ok (.if_icmp .ge 184, 3) := by decide +kernel
theorem dX9_holds_38 : decode cX9_holds 38 = .ok (.sipush 200, 3) := by decide +kernel
theorem dX9_holds_41 : decode cX9_holds 41 = .ok (.iload_n 2, 1) := by decide +kernel
theorem dX9_holds_42 : decode cX9_holds 42 = .ok (.imul, 1) := by decide +kernel
theorem dX9_holds_43 : decode cX9_holds 43 = .ok (.iload 4, 2) := by decide +kernel
theorem dX9_holds_45 : decode cX9_holds 45 = .ok (.iadd, 1) := by decide +kernel
theorem dX9_holds_46 : decode cX9_holds 46 = .ok (.istore 5, 2) := by decide +kernel
theorem dX9_holds_48 : decode cX9_holds 48 = .ok (.aload_n 0, 1) := by decide +kernel
theorem dX9_holds_49 : decode cX9_holds 49 = .ok (.getfield 73, 3) := by decide +kernel
theorem dX9_holds_52 : decode cX9_holds 52 = .ok (.iload 5, 2) := by decide +kernel
theorem dX9_holds_54 : decode cX9_holds 54 = .ok (.baload, 1) := by decide +kernel
theorem dX9_holds_55 : decode cX9_holds 55 = .ok (.ifCond .eq 9, 3) := by decide +kernel
theorem dX9_holds_58 : decode cX9_holds 58 = .ok (.iload_n 3, 1) := by decide +kernel
theorem dX9_holds_59 : decode cX9_holds 59 = .ok (.ifCond .eq 5, 3) := by decide +kernel
theorem dX9_holds_62 : decode cX9_holds 62 = .ok (.iconst 1, 1) := by decide +kernel
theorem dX9_holds_63 : decode cX9_holds 63 = .ok (.ireturn, 1) := by decide +kernel
theorem dX9_holds_64 : decode cX9_holds 64 = .ok (.aload_n 0, 1) := by decide +kernel
theorem dX9_holds_65 : decode cX9_holds 65 = .ok (.getfield 73, 3) := by decide +kernel
theorem dX9_holds_68 : decode cX9_holds 68 = .ok (.iload 5, 2) := by decide +kernel
theorem dX9_holds_70 : decode cX9_holds 70 = .ok (.baload, 1) := by decide +kernel
theorem dX9_holds_71 : decode cX9_holds 71 = .ok (.ifCond .eq 5, 3) := by decide +kernel
theorem dX9_holds_74 : decode cX9_holds 74 = .ok (.iconst 1, 1) := by decide +kernel
theorem dX9_holds_75 : decode cX9_holds 75 = .ok (.istore_n 3, 1) := by decide +kernel
theorem dX9_holds_76 : decode cX9_holds 76 = .ok (.iload_n 3, 1) := by decide +kernel
theorem dX9_holds_77 : decode cX9_holds 77 = .ok (.ifCond .ne 6, 3) := by decide +kernel
theorem dX9_holds_80 : decode cX9_holds 80 = .ok (.goto 133, 3) := by decide +kernel
theorem dX9_holds_83 : decode cX9_holds 83 = .ok (.aload_n 0, 1) := by decide +kernel
theorem dX9_holds_84 : decode cX9_holds 84 = .ok (.aload_n 0, 1) := by decide +kernel
theorem dX9_holds_85 : decode cX9_holds 85 = .ok (.getfield 64, 3) := by decide +kernel
theorem dX9_holds_88 : decode cX9_holds 88 = .ok (.iload 5, 2) := by decide +kernel
theorem dX9_holds_90 : decode cX9_holds 90 = .ok (.iaload, 1) := by decide +kernel
theorem dX9_holds_91 : decode cX9_holds 91 = .ok (.aload_n 0, 1) := by decide +kernel
theorem dX9_holds_92 : decode cX9_holds 92 = .ok (.getfield 67, 3) := by decide +kernel
theorem dX9_holds_95 : decode cX9_holds 95 = .ok (.iload 5, 2) := by decide +kernel
theorem dX9_holds_97 : decode cX9_holds 97 = .ok (.iaload, 1) := by decide +kernel
theorem dX9_holds_98 : decode cX9_holds 98 = .ok (.invokevirtual 339, 3) := by decide +kernel
theorem dX9_holds_101 : decode cX9_holds 101 = .ok (.istore 6, 2) := by decide +kernel
theorem dX9_holds_103 : decode cX9_holds 103 = .ok (.aload_n 0, 1) := by decide +kernel
theorem dX9_holds_104 : decode cX9_holds 104 = .ok (.aload_n 0, 1) := by decide +kernel
theorem dX9_holds_105 : decode cX9_holds 105 = .ok (.getfield 67, 3) := by decide +kernel
theorem dX9_holds_108 : decode cX9_holds 108 = .ok (.iload 5, 2) := by decide +kernel
theorem dX9_holds_110 : decode cX9_holds 110 = .ok (.iaload, 1) := by decide +kernel
theorem dX9_holds_111 : decode cX9_holds 111 = .ok (.aload_n 0, 1) := by decide +kernel
theorem dX9_holds_112 : decode cX9_holds 112 = .ok (.getfield 70, 3) := by decide +kernel
theorem dX9_holds_115 : decode cX9_holds 115 = .ok (.iload 5, 2) := by decide +kernel
theorem dX9_holds_117 : decode cX9_holds 117 = .ok (.iaload, 1) := by decide +kernel
theorem dX9_holds_118 : decode cX9_holds 118 = .ok (.invokevirtual 339, 3) := by decide +kernel
theorem dX9_holds_121 : decode cX9_holds 121 = .ok (.istore 7, 2) := by decide +kernel
theorem dX9_holds_123 : decode cX9_holds 123 = .ok (.aload_n 0, 1) := by decide +kernel
theorem dX9_holds_124 : decode cX9_holds 124 = .ok (.getfield 61, 3) := by decide +kernel
theorem dX9_holds_127 : decode cX9_holds 127 = .ok (.iload 5, 2) := by decide +kernel
theorem dX9_holds_129 : decode cX9_holds 129 = .ok (.iaload, 1) := by decide +kernel
theorem dX9_holds_130 : decode cX9_holds 130 = .ok (.ifCond .ne 18, 3) := by decide +kernel
theorem dX9_holds_133 : decode cX9_holds 133 = .ok (.iload 6, 2) := by decide +kernel
theorem dX9_holds_135 : decode cX9_holds 135 = .ok (.iload 7, 2) := by decide +kernel
theorem dX9_holds_137 : decode cX9_holds 137 = .ok (.if_icmp .ne 7, 3) := by decide +kernel
theorem dX9_holds_140 : decode cX9_holds 140 = .ok (.iconst 1, 1) := by decide +kernel
theorem dX9_holds_141 : decode cX9_holds 141 = .ok (.goto 71, 3) := by decide +kernel
theorem dX9_holds_144 : decode cX9_holds 144 = .ok (.iconst 0, 1) := by decide +kernel
theorem dX9_holds_145 : decode cX9_holds 145 = .ok (.goto 67, 3) := by decide +kernel
theorem dX9_holds_148 : decode cX9_holds 148 = .ok (.aload_n 0, 1) := by decide +kernel
theorem dX9_holds_149 : decode cX9_holds 149 = .ok (.getfield 61, 3) := by decide +kernel
theorem dX9_holds_152 : decode cX9_holds 152 = .ok (.iload 5, 2) := by decide +kernel
theorem dX9_holds_154 : decode cX9_holds 154 = .ok (.iaload, 1) := by decide +kernel
theorem dX9_holds_155 : decode cX9_holds 155 = .ok (.iconst 1, 1) := by decide +kernel
theorem dX9_holds_156 : decode cX9_holds 156 = .ok (.if_icmp .ne 18, 3) := by decide +kernel
theorem dX9_holds_159 : decode cX9_holds 159 = .ok (.iload 6, 2) := by decide +kernel
theorem dX9_holds_161 : decode cX9_holds 161 = .ok (.iload 7, 2) := by decide +kernel
theorem dX9_holds_163 : decode cX9_holds 163 = .ok (.if_icmp .eq 7, 3) := by decide +kernel
theorem dX9_holds_166 : decode cX9_holds 166 = .ok (.iconst 1, 1) := by decide +kernel
theorem dX9_holds_167 : decode cX9_holds 167 = .ok (.goto 45, 3) := by decide +kernel
theorem dX9_holds_170 : decode cX9_holds 170 = .ok (.iconst 0, 1) := by decide +kernel
theorem dX9_holds_171 : decode cX9_holds 171 = .ok (.goto 41, 3) := by decide +kernel
theorem dX9_holds_174 : decode cX9_holds 174 = .ok (.aload_n 0, 1) := by decide +kernel
theorem dX9_holds_175 : decode cX9_holds 175 = .ok (.getfield 61, 3) := by decide +kernel
theorem dX9_holds_178 : decode cX9_holds 178 = .ok (.iload 5, 2) := by decide +kernel
theorem dX9_holds_180 : decode cX9_holds 180 = .ok (.iaload, 1) := by decide +kernel
theorem dX9_holds_181 : decode cX9_holds 181 = .ok (.iconst 2, 1) := by decide +kernel
theorem dX9_holds_182 : decode cX9_holds 182 = .ok (.if_icmp .ne 18, 3) := by decide +kernel
theorem dX9_holds_185 : decode cX9_holds 185 = .ok (.iload 6, 2) := by decide +kernel
theorem dX9_holds_187 : decode cX9_holds 187 = .ok (.iload 7, 2) := by decide +kernel
theorem dX9_holds_189 : decode cX9_holds 189 = .ok (.if_icmp .ge 7, 3) := by decide +kernel
theorem dX9_holds_192 : decode cX9_holds 192 = .ok (.iconst 1, 1) := by decide +kernel
theorem dX9_holds_193 : decode cX9_holds 193 = .ok (.goto 19, 3) := by decide +kernel
theorem dX9_holds_196 : decode cX9_holds 196 = .ok (.iconst 0, 1) := by decide +kernel
theorem dX9_holds_197 : decode cX9_holds 197 = .ok (.goto 15, 3) := by decide +kernel
theorem dX9_holds_200 : decode cX9_holds 200 = .ok (.iload 6, 2) := by decide +kernel
theorem dX9_holds_202 : decode cX9_holds 202 = .ok (.iload 7, 2) := by decide +kernel
theorem dX9_holds_204 : decode cX9_holds 204 = .ok (.if_icmp .gt 7, 3) := by decide +kernel
theorem dX9_holds_207 : decode cX9_holds 207 = .ok (.iconst 1, 1) := by decide +kernel
theorem dX9_holds_208 : decode cX9_holds 208 = .ok (.goto 4, 3) := by decide +kernel
theorem dX9_holds_211 : decode cX9_holds 211 = .ok (.iconst 0, 1) := by decide +kernel
theorem dX9_holds_212 : decode cX9_holds 212 = .ok (.istore_n 3, 1) := by decide +kernel
theorem dX9_holds_213 : decode cX9_holds 213 = .ok (.iinc 4 1, 3) := by decide +kernel
theorem dX9_holds_216 : decode cX9_holds 216 = .ok (.goto (-189), 3) := by decide +kernel
theorem dX9_holds_219 : decode cX9_holds 219 = .ok (.iload_n 3, 1) := by decide +kernel
theorem dX9_holds_220 : decode cX9_holds 220 = .ok (.ireturn, 1) := by decide +kernel
theorem dX9_answers_0 : decode cX9_answers 0 = .ok (.iconst 2, 1) := by decide +kernel
theorem dX9_answers_1 : decode cX9_answers 1 = .ok (.iload_n 1, 1) := by decide +kernel
theorem dX9_answers_2 : decode cX9_answers 2 = .ok (.imul, 1) := by decide +kernel
theorem dX9_answers_3 : decode cX9_answers 3 = .ok (.aload_n 0, 1) := by decide +kernel
theorem dX9_answers_4 : decode cX9_answers 4 = .ok (.getfield 40, 3) := by decide +kernel
theorem dX9_answers_7 : decode cX9_answers 7 = .ok (.iload_n 1, 1) := by decide +kernel
theorem dX9_answers_8 : decode cX9_answers 8 = .ok (.iaload, 1) := by decide +kernel
theorem dX9_answers_9 : decode cX9_answers 9 = .ok (.iadd, 1) := by decide +kernel
theorem dX9_answers_10 : decode cX9_answers 10 = .ok (.istore_n 2, 1) := by decide +kernel
theorem dX9_answers_11 : decode cX9_answers 11 = .ok (.iconst (-1), 1) := by decide +kernel
theorem dX9_answers_12 : decode cX9_answers 12 = .ok (.istore_n 3, 1) := by decide +kernel
theorem dX9_answers_13 : decode cX9_answers 13 = .ok (.iconst 0, 1) := by decide +kernel
theorem dX9_answers_14 : decode cX9_answers 14 = .ok (.istore 4, 2) := by decide +kernel
theorem dX9_answers_16 : decode cX9_answers 16 = .ok (.aload_n 0, 1) := by decide +kernel
theorem dX9_answers_17 : decode cX9_answers 17 = .ok (.iconst 0, 1) := by decide +kernel
theorem dX9_answers_18 : decode cX9_answers 18 = .ok (.putfield 343, 3) := by decide +kernel
theorem dX9_answers_21 : decode cX9_answers 21 = .ok (.bipush 20, 2) := by decide +kernel
theorem dX9_answers_23 : decode cX9_answers 23 = .ok (.iload_n 2, 1) := by decide +kernel
theorem dX9_answers_24 : decode cX9_answers 24 = .ok (.imul, 1) := by decide +kernel
theorem dX9_answers_25 : decode cX9_answers 25 = .ok (.istore 5, 2) := by decide +kernel
theorem dX9_answers_27 : decode cX9_answers 27 = .ok (.iload 5, 2) := by decide +kernel
theorem dX9_answers_29 : decode cX9_answers 29 = .ok (.bipush 20, 2) := by decide +kernel
theorem dX9_answers_31 : decode cX9_answers 31 = .ok (.iload_n 2, 1) := by decide +kernel
theorem dX9_answers_32 : decode cX9_answers 32 = .ok (.imul, 1) := by decide +kernel
theorem dX9_answers_33 : decode cX9_answers 33 = .ok (.aload_n 0, 1) := by decide +kernel
theorem dX9_answers_34 : decode cX9_answers 34 = .ok (.getfield 43, 3) := by decide +kernel
theorem dX9_answers_37 : decode cX9_answers 37 = .ok (.iload_n 2, 1) := by decide +kernel
theorem dX9_answers_38 : decode cX9_answers 38 = .ok (.iaload, 1) := by decide +kernel
theorem dX9_answers_39 : decode cX9_answers 39 = .ok (.iadd, 1) := by decide +kernel
theorem dX9_answers_40 : decode cX9_answers 40 = .ok (.if_icmp .ge 81, 3) := by decide +kernel
theorem dX9_answers_43 : decode cX9_answers 43 = .ok (.aload_n 0, 1) := by decide +kernel
theorem dX9_answers_44 : decode cX9_answers 44 = .ok (.iload 5, 2) := by decide +kernel
theorem dX9_answers_46 : decode cX9_answers 46 = .ok (.iload_n 2, 1) := by decide +kernel
theorem dX9_answers_47 : decode cX9_answers 47 = .ok (.invokevirtual 346, 3) := by decide +kernel
theorem dX9_answers_50 : decode cX9_answers 50 = .ok (.ifCond .ne 6, 3) := by decide +kernel
theorem dX9_answers_53 : decode cX9_answers 53 = .ok (.goto 62, 3) := by decide +kernel
theorem dX9_answers_56 : decode cX9_answers 56 = .ok (.aload_n 0, 1) := by decide +kernel
theorem dX9_answers_57 : decode cX9_answers 57 = .ok (.getfield 46, 3) := by decide +kernel
theorem dX9_answers_60 : decode cX9_answers 60 = .ok (.iload 5, 2) := by decide +kernel
theorem dX9_answers_62 : decode cX9_answers 62 = .ok (.iaload, 1) := by decide +kernel
theorem dX9_answers_63 : decode cX9_answers 63 = .ok (.iconst 1, 1) := by decide +kernel
theorem dX9_answers_64 : decode cX9_answers 64 = .ok (.if_icmp .ne 24, 3) := by decide +kernel
theorem dX9_answers_67 : decode cX9_answers 67 = .ok (.aload_n 0, 1) := by decide +kernel
theorem dX9_answers_68 : decode cX9_answers 68 = .ok (.dup, 1) := by decide +kernel
theorem dX9_answers_69 : decode cX9_answers 69 = .ok (.getfield 343, 3) := by decide +kernel
theorem dX9_answers_72 : decode cX9_answers 72 = .ok (.iconst 1, 1) := by decide +kernel
theorem dX9_answers_73 : decode cX9_answers 73 = .ok (.aload_n 0, 1) := by decide +kernel
theorem dX9_answers_74 : decode cX9_answers 74 = .ok (.getfield 49, 3) := by decide +kernel
theorem dX9_answers_77 : decode cX9_answers 77 = .ok (.iload 5, 2) := by decide +kernel
theorem dX9_answers_79 : decode cX9_answers 79 = .ok (.iaload, 1) := by decide +kernel
theorem dX9_answers_80 : decode cX9_answers 80 = .ok (.ishl, 1) := by decide +kernel
theorem dX9_answers_81 : decode cX9_answers 81 = .ok (.ior, 1) := by decide +kernel
theorem dX9_answers_82 : decode cX9_answers 82 = .ok (.putfield 343, 3) := by decide +kernel
theorem dX9_answers_85 : decode cX9_answers 85 = .ok (.goto 30, 3) := by decide +kernel
theorem dX9_answers_88 : decode cX9_answers 88 = .ok (.iload_n 3, 1) := by decide +kernel
theorem dX9_answers_89 : decode cX9_answers 89 = .ok (.iconst (-1), 1) := by decide +kernel
theorem dX9_answers_90 : decode cX9_answers 90 = .ok (.if_icmp .eq 17, 3) := by decide +kernel
theorem dX9_answers_93 : decode cX9_answers 93 = .ok (.iload_n 3, 1) := by decide +kernel
theorem dX9_answers_94 : decode cX9_answers 94 = .ok (.aload_n 0, 1) := by decide +kernel
theorem dX9_answers_95 : decode cX9_answers 95 = .ok (.getfield 49, 3) := by decide +kernel
theorem dX9_answers_98 : decode cX9_answers 98 = .ok (.iload 5, 2) := by decide +kernel
theorem dX9_answers_100 : decode cX9_answers 100 = .ok (.iaload, 1) := by decide +kernel
theorem dX9_answers_101 : decode cX9_answers 101 = .ok (.if_icmp .eq 6, 3) := by decide +kernel
theorem dX9_answers_104 : decode cX9_answers 104 = .ok (.iconst 1, 1) := by decide +kernel
theorem dX9_answers_105 : decode cX9_answers 105 = .ok (.istore 4, 2) := by decide +kernel
theorem dX9_answers_107 : decode cX9_answers 107 = .ok (.aload_n 0, 1) := by decide +kernel
theorem dX9_answers_108 : decode cX9_answers 108 = .ok (.getfield 49, 3) := by decide +kernel
theorem dX9_answers_111 : decode cX9_answers 111 = .ok (.iload 5, 2) := by decide +kernel
theorem dX9_answers_113 : decode cX9_answers 113 = .ok (.iaload, 1) := by decide +kernel
theorem dX9_answers_114 : decode cX9_answers 114 = .ok (.istore_n 3, 1) := by decide +kernel
theorem dX9_answers_115 : decode cX9_answers 115 = .ok (.iinc 5 1, 3) := by decide +kernel
theorem dX9_answers_118 : decode cX9_answers 118 = .ok (.goto (-91), 3) := by decide +kernel
theorem dX9_answers_121 : decode cX9_answers 121 = .ok (.iload_n 3, 1) := by decide +kernel
theorem dX9_answers_122 : decode cX9_answers 122 = .ok (.iconst (-1), 1) := by decide +kernel
theorem dX9_answers_123 : decode cX9_answers 123 = .ok (.if_icmp .ne 5, 3) := by decide +kernel
theorem dX9_answers_126 : decode cX9_answers 126 = .ok (.iconst (-1), 1) := by decide +kernel
theorem dX9_answers_127 : decode cX9_answers 127 = .ok (.ireturn, 1) := by decide +kernel
theorem dX9_answers_128 : decode cX9_answers 128 = .ok (.iload 4, 2) := by decide +kernel
theorem dX9_answers_130 : decode cX9_answers 130 = .ok (.ifCond .ne 11, 3) := by decide +kernel
theorem dX9_answers_133 : decode cX9_answers 133 = .ok (.iload_n 3, 1) := by decide +kernel
theorem dX9_answers_134 : decode cX9_answers 134 = .ok (.aload_n 0, 1) := by decide +kernel
theorem dX9_answers_135 : decode cX9_answers 135 = .ok (.getfield 320, 3) := by decide +kernel
theorem dX9_answers_138 : decode cX9_answers 138 = .ok (.if_icmp .lt 8, 3) := by decide +kernel
theorem dX9_answers_141 : decode cX9_answers 141 = .ok (.bipush (-2), 2) := by decide +kernel
theorem dX9_answers_143 : decode cX9_answers 143 = .ok (.goto 4, 3) := by decide +kernel
theorem dX9_answers_146 : decode cX9_answers 146 = .ok (.iload_n 3, 1) := by decide +kernel
theorem dX9_answers_147 : decode cX9_answers 147 = .ok (.ireturn, 1) := by decide +kernel
theorem dX9_goes_0 : decode cX9_goes 0 = .ok (.aload_n 0, 1) := by decide +kernel
theorem dX9_goes_1 : decode cX9_goes 1 = .ok (.getfield 290, 3) := by decide +kernel
theorem dX9_goes_4 : decode cX9_goes 4 = .ok (.ifCond .eq 4, 3) := by decide +kernel
theorem dX9_goes_7 : decode cX9_goes 7 = .ok (.return_, 1) := by decide +kernel
theorem dX9_goes_8 : decode cX9_goes 8 = .ok (.aload_n 0, 1) := by decide +kernel
theorem dX9_goes_9 : decode cX9_goes 9 = .ok (.iconst 1, 1) := by decide +kernel
theorem dX9_goes_10 : decode cX9_goes 10 = .ok (.putfield 290, 3) := by decide +kernel
theorem dX9_goes_13 : decode cX9_goes 13 = .ok (.aload_n 0, 1) := by decide +kernel
theorem dX9_goes_14 : decode cX9_goes 14 = .ok (.iconst 0, 1) := by decide +kernel
theorem dX9_goes_15 : decode cX9_goes 15 = .ok (.putfield 350, 3) := by decide +kernel
theorem dX9_goes_18 : decode cX9_goes 18 = .ok (.iconst 0, 1) := by decide +kernel
theorem dX9_goes_19 : decode cX9_goes 19 = .ok (.istore_n 1, 1) := by decide +kernel
theorem dX9_goes_20 : decode cX9_goes 20 = .ok (.iload_n 1, 1) := by decide +kernel
theorem dX9_goes_21 : decode cX9_goes 21 = .ok (.bipush 72, 2) := by decide +kernel
theorem dX9_goes_23 : decode cX9_goes 23 = .ok (.if_icmp .ge 16, 3) := by decide +kernel
theorem dX9_goes_26 : decode cX9_goes 26 = .ok (.aload_n 0, 1) := by decide +kernel
theorem dX9_goes_27 : decode cX9_goes 27 = .ok (.getfield 155, 3) := by decide +kernel
theorem dX9_goes_30 : decode cX9_goes 30 = .ok (.iload_n 1, 1) := by decide +kernel
theorem dX9_goes_31 : decode cX9_goes 31 = .ok (.iconst 0, 1) := by decide +kernel
theorem dX9_goes_32 : decode cX9_goes 32 = .ok (.iastore, 1) := by decide +kernel
theorem dX9_goes_33 : decode cX9_goes 33 = .ok (.iinc 1 1, 3) := by decide +kernel
theorem dX9_goes_36 : decode cX9_goes 36 = .ok (.goto (-16), 3) := by decide +kernel
theorem dX9_goes_39 : decode cX9_goes 39 = .ok (.iconst 0, 1) := by decide +kernel
theorem dX9_goes_40 : decode cX9_goes 40 = .ok (.istore_n 1, 1) := by decide +kernel
theorem dX9_goes_41 : decode cX9_goes 41 = .ok (.iload_n 1, 1) := by decide +kernel
theorem dX9_goes_42 : decode cX9_goes 42 = .ok (.bipush 8, 2) := by decide +kernel
theorem dX9_goes_44 : decode cX9_goes 44 = .ok (.if_icmp .ge 49, 3) := by decide +kernel
theorem dX9_goes_47 : decode cX9_goes 47 = .ok (.aload_n 0, 1) := by decide +kernel
theorem dX9_goes_48 : decode cX9_goes 48 = .ok (.getfield 158, 3) := by decide +kernel
theorem dX9_goes_51 : decode cX9_goes 51 = .ok (.iload_n 1, 1) := by decide +kernel
theorem dX9_goes_52 : decode cX9_goes 52 = .ok (.iconst 0, 1) := by decide +kernel
theorem dX9_goes_53 : decode cX9_goes 53 = .ok (.iastore, 1) := by decide +kernel
theorem dX9_goes_54 : decode cX9_goes 54 = .ok (.aload_n 0, 1) := by decide +kernel
theorem dX9_goes_55 : decode cX9_goes 55 = .ok (.getfield 161, 3) := by decide +kernel
theorem dX9_goes_58 : decode cX9_goes 58 = .ok (.iload_n 1, 1) := by decide +kernel
theorem dX9_goes_59 : decode cX9_goes 59 = .ok (.iconst 0, 1) := by decide +kernel
theorem dX9_goes_60 : decode cX9_goes 60 = .ok (.iastore, 1) := by decide +kernel
theorem dX9_goes_61 : decode cX9_goes 61 = .ok (.aload_n 0, 1) := by decide +kernel
theorem dX9_goes_62 : decode cX9_goes 62 = .ok (.getfield 176, 3) := by decide +kernel
theorem dX9_goes_65 : decode cX9_goes 65 = .ok (.iload_n 1, 1) := by decide +kernel
theorem dX9_goes_66 : decode cX9_goes 66 = .ok (.iconst (-1), 1) := by decide +kernel
theorem dX9_goes_67 : decode cX9_goes 67 = .ok (.iastore, 1) := by decide +kernel
theorem dX9_goes_68 : decode cX9_goes 68 = .ok (.aload_n 0, 1) := by decide +kernel
theorem dX9_goes_69 : decode cX9_goes 69 = .ok (.getfield 191, 3) := by decide +kernel
theorem dX9_goes_72 : decode cX9_goes 72 = .ok (.iload_n 1, 1) := by decide +kernel
theorem dX9_goes_73 : decode cX9_goes 73 = .ok (.iconst 0, 1) := by decide +kernel
theorem dX9_goes_74 : decode cX9_goes 74 = .ok (.iastore, 1) := by decide +kernel
theorem dX9_goes_75 : decode cX9_goes 75 = .ok (.aload_n 0, 1) := by decide +kernel
theorem dX9_goes_76 : decode cX9_goes 76 = .ok (.getfield 179, 3) := by decide +kernel
theorem dX9_goes_79 : decode cX9_goes 79 = .ok (.iload_n 1, 1) := by decide +kernel
theorem dX9_goes_80 : decode cX9_goes 80 = .ok (.iconst 0, 1) := by decide +kernel
theorem dX9_goes_81 : decode cX9_goes 81 = .ok (.iastore, 1) := by decide +kernel
theorem dX9_goes_82 : decode cX9_goes 82 = .ok (.aload_n 0, 1) := by decide +kernel
theorem dX9_goes_83 : decode cX9_goes 83 = .ok (.iload_n 1, 1) := by decide +kernel
theorem dX9_goes_84 : decode cX9_goes 84 = .ok (.invokevirtual 353, 3) := by decide +kernel
theorem dX9_goes_87 : decode cX9_goes 87 = .ok (.iinc 1 1, 3) := by decide +kernel
theorem dX9_goes_90 : decode cX9_goes 90 = .ok (.goto (-49), 3) := by decide +kernel
theorem dX9_goes_93 : decode cX9_goes 93 = .ok (.iconst 0, 1) := by decide +kernel
theorem dX9_goes_94 : decode cX9_goes 94 = .ok (.istore_n 1, 1) := by decide +kernel
theorem dX9_goes_95 : decode cX9_goes 95 = .ok (.iload_n 1, 1) := by decide +kernel
theorem dX9_goes_96 : decode cX9_goes 96 = .ok (.sipush 300, 3) := by decide +kernel
theorem dX9_goes_99 : decode cX9_goes 99 = .ok (.if_icmp .ge 141, 3) := by decide +kernel
theorem dX9_goes_102 : decode cX9_goes 102 = .ok (.iconst 0, 1) := by decide +kernel
theorem dX9_goes_103 : decode cX9_goes 103 = .ok (.istore_n 2, 1) := by decide +kernel
theorem dX9_goes_104 : decode cX9_goes 104 = .ok (.iload_n 2, 1) := by decide +kernel
theorem dX9_goes_105 : decode cX9_goes 105 = .ok (.aload_n 0, 1) := by decide +kernel
theorem dX9_goes_106 : decode cX9_goes 106 = .ok (.getfield 317, 3) := by decide +kernel
theorem dX9_goes_109 : decode cX9_goes 109 = .ok (.if_icmp .ge 15, 3) := by decide +kernel
theorem dX9_goes_112 : decode cX9_goes 112 = .ok (.aload_n 0, 1) := by decide +kernel
theorem dX9_goes_113 : decode cX9_goes 113 = .ok (.iload_n 2, 1) := by decide +kernel
theorem dX9_goes_114 : decode cX9_goes 114 = .ok (.iload_n 1, 1) := by decide +kernel
theorem dX9_goes_115 : decode cX9_goes 115 = .ok (.invokevirtual 356, 3) := by decide +kernel
theorem dX9_goes_118 : decode cX9_goes 118 = .ok (.iinc 2 1, 3) := by decide +kernel
theorem dX9_goes_121 : decode cX9_goes 121 = .ok (.goto (-17), 3) := by decide +kernel
theorem dX9_goes_124 : decode cX9_goes 124 = .ok (.iconst 0, 1) := by decide +kernel
theorem dX9_goes_125 : decode cX9_goes 125 = .ok (.istore_n 2, 1) := by decide +kernel
theorem dX9_goes_126 : decode cX9_goes 126 = .ok (.iload_n 2, 1) := by decide +kernel
theorem dX9_goes_127 : decode cX9_goes 127 = .ok (.aload_n 0, 1) := by decide +kernel
theorem dX9_goes_128 : decode cX9_goes 128 = .ok (.getfield 317, 3) := by decide +kernel
theorem dX9_goes_131 : decode cX9_goes 131 = .ok (.if_icmp .ge 35, 3) := by decide +kernel
theorem dX9_goes_134 : decode cX9_goes 134 = .ok (.aload_n 0, 1) := by decide +kernel
theorem dX9_goes_135 : decode cX9_goes 135 = .ok (.getfield 158, 3) := by decide +kernel
theorem dX9_goes_138 : decode cX9_goes 138 = .ok (.iload_n 2, 1) := by decide +kernel
theorem dX9_goes_139 : decode cX9_goes 139 = .ok (.iaload, 1) := by decide +kernel
theorem dX9_goes_140 : decode cX9_goes 140 = .ok (.iconst 1, 1) := by decide +kernel
theorem dX9_goes_141 : decode cX9_goes 141 = .ok (.if_icmp .ne 19, 3) := by decide +kernel
theorem dX9_goes_144 : decode cX9_goes 144 = .ok (.aload_n 0, 1) := by decide +kernel
theorem dX9_goes_145 : decode cX9_goes 145 = .ok (.getfield 164, 3) := by decide +kernel
theorem dX9_goes_148 : decode cX9_goes 148 = .ok (.iload_n 2, 1) := by decide +kernel
theorem dX9_goes_149 : decode cX9_goes 149 = .ok (.iaload, 1) := by decide +kernel
theorem dX9_goes_150 : decode cX9_goes 150 = .ok (.iload_n 1, 1) := by decide +kernel
theorem dX9_goes_151 : decode cX9_goes 151 = .ok (.if_icmp .gt 9, 3) := by decide +kernel
theorem dX9_goes_154 : decode cX9_goes 154 = .ok (.aload_n 0, 1) := by decide +kernel
theorem dX9_goes_155 : decode cX9_goes 155 = .ok (.iload_n 2, 1) := by decide +kernel
theorem dX9_goes_156 : decode cX9_goes 156 = .ok (.iload_n 1, 1) := by decide +kernel
theorem dX9_goes_157 : decode cX9_goes 157 = .ok (.invokevirtual 359, 3) := by decide +kernel
theorem dX9_goes_160 : decode cX9_goes 160 = .ok (.iinc 2 1, 3) := by decide +kernel
theorem dX9_goes_163 : decode cX9_goes 163 = .ok (.goto (-37), 3) := by decide +kernel
theorem dX9_goes_166 : decode cX9_goes 166 = .ok (.aload_n 0, 1) := by decide +kernel
theorem dX9_goes_167 : decode cX9_goes 167 = .ok (.iload_n 1, 1) := by decide +kernel
theorem dX9_goes_168 : decode cX9_goes 168 = .ok (.invokevirtual 362, 3) := by decide +kernel
theorem dX9_goes_171 : decode cX9_goes 171 = .ok (.iconst 0, 1) := by decide +kernel
theorem dX9_goes_172 : decode cX9_goes 172 = .ok (.istore_n 2, 1) := by decide +kernel
theorem dX9_goes_173 : decode cX9_goes 173 = .ok (.iload_n 2, 1) := by decide +kernel
theorem dX9_goes_174 : decode cX9_goes 174 = .ok (.aload_n 0, 1) := by decide +kernel
theorem dX9_goes_175 : decode cX9_goes 175 = .ok (.getfield 317, 3) := by decide +kernel
theorem dX9_goes_178 : decode cX9_goes 178 = .ok (.if_icmp .ge 34, 3) := by decide +kernel
theorem dX9_goes_181 : decode cX9_goes 181 = .ok (.aload_n 0, 1) := by decide +kernel
theorem dX9_goes_182 : decode cX9_goes 182 = .ok (.getfield 158, 3) := by decide +kernel
theorem dX9_goes_185 : decode cX9_goes 185 = .ok (.iload_n 2, 1) := by decide +kernel
theorem dX9_goes_186 : decode cX9_goes 186 = .ok (.iaload, 1) := by decide +kernel
theorem dX9_goes_187 : decode cX9_goes 187 = .ok (.iconst 3, 1) := by decide +kernel
theorem dX9_goes_188 : decode cX9_goes 188 = .ok (.if_icmp .ne 18, 3) := by decide +kernel
theorem dX9_goes_191 : decode cX9_goes 191 = .ok (.aload_n 0, 1) := by decide +kernel
theorem dX9_goes_192 : decode cX9_goes 192 = .ok (.getfield 173, 3) := by decide +kernel
theorem dX9_goes_195 : decode cX9_goes 195 = .ok (.iload_n 2, 1) := by decide +kernel
theorem dX9_goes_196 : decode cX9_goes 196 = .ok (.iaload, 1) := by decide +kernel
theorem dX9_goes_197 : decode cX9_goes 197 = .ok (.iload_n 1, 1) := by decide +kernel
theorem dX9_goes_198 : decode cX9_goes 198 = .ok (.if_icmp .gt 8, 3) := by decide +kernel
theorem dX9_goes_201 : decode cX9_goes 201 = .ok (.aload_n 0, 1) := by decide +kernel
theorem dX9_goes_202 : decode cX9_goes 202 = .ok (.iload_n 2, 1) := by decide +kernel
theorem dX9_goes_203 : decode cX9_goes 203 = .ok (.invokevirtual 365, 3) := by decide +kernel
theorem dX9_goes_206 : decode cX9_goes 206 = .ok (.iinc 2 1, 3) := by decide +kernel
theorem dX9_goes_209 : decode cX9_goes 209 = .ok (.goto (-36), 3) := by decide +kernel
theorem dX9_goes_212 : decode cX9_goes 212 = .ok (.iconst 0, 1) := by decide +kernel
theorem dX9_goes_213 : decode cX9_goes 213 = .ok (.istore_n 2, 1) := by decide +kernel
theorem dX9_goes_214 : decode cX9_goes 214 = .ok (.iload_n 2, 1) := by decide +kernel
theorem dX9_goes_215 : decode cX9_goes 215 = .ok (.aload_n 0, 1) := by decide +kernel
theorem dX9_goes_216 : decode cX9_goes 216 = .ok (.getfield 317, 3) := by decide +kernel
theorem dX9_goes_219 : decode cX9_goes 219 = .ok (.if_icmp .ge 15, 3) := by decide +kernel
theorem dX9_goes_222 : decode cX9_goes 222 = .ok (.aload_n 0, 1) := by decide +kernel
theorem dX9_goes_223 : decode cX9_goes 223 = .ok (.iload_n 2, 1) := by decide +kernel
theorem dX9_goes_224 : decode cX9_goes 224 = .ok (.iload_n 1, 1) := by decide +kernel
theorem dX9_goes_225 : decode cX9_goes 225 = .ok (.invokevirtual 368, 3) := by decide +kernel
theorem dX9_goes_228 : decode cX9_goes 228 = .ok (.iinc 2 1, 3) := by decide +kernel
theorem dX9_goes_231 : decode cX9_goes 231 = .ok (.goto (-17), 3) := by decide +kernel
theorem dX9_goes_234 : decode cX9_goes 234 = .ok (.iinc 1 1, 3) := by decide +kernel
theorem dX9_goes_237 : decode cX9_goes 237 = .ok (.goto (-142), 3) := by decide +kernel
theorem dX9_goes_240 : decode cX9_goes 240 = .ok (.return_, 1) := by decide +kernel
theorem dX9_clears_0 : decode cX9_clears 0 = .ok (.aload_n 0, 1) := by decide +kernel
theorem dX9_clears_1 : decode cX9_clears 1 = .ok (.getfield 182, 3) := by decide +kernel
theorem dX9_clears_4 : decode cX9_clears 4 = .ok (.iload_n 1, 1) := by decide +kernel
theorem dX9_clears_5 : decode cX9_clears 5 = .ok (.iconst 0, 1) := by decide +kernel
theorem dX9_clears_6 : decode cX9_clears 6 = .ok (.iastore, 1) := by decide +kernel
theorem dX9_clears_7 : decode cX9_clears 7 = .ok (.aload_n 0, 1) := by decide +kernel
theorem dX9_clears_8 : decode cX9_clears 8 = .ok (.getfield 185, 3) := by decide +kernel
theorem dX9_clears_11 : decode cX9_clears 11 = .ok (.iload_n 1, 1) := by decide +kernel
theorem dX9_clears_12 : decode cX9_clears 12 = .ok (.iconst 0, 1) := by decide +kernel
theorem dX9_clears_13 : decode cX9_clears 13 = .ok (.iastore, 1) := by decide +kernel
theorem dX9_clears_14 : decode cX9_clears 14 = .ok (.aload_n 0, 1) := by decide +kernel
theorem dX9_clears_15 : decode cX9_clears 15 = .ok (.getfield 188, 3) := by decide +kernel
theorem dX9_clears_18 : decode cX9_clears 18 = .ok (.iload_n 1, 1) := by decide +kernel
theorem dX9_clears_19 : decode cX9_clears 19 = .ok (.iconst 0, 1) := by decide +kernel
theorem dX9_clears_20 : decode cX9_clears 20 = .ok (.iastore, 1) := by decide +kernel
theorem dX9_clears_21 : decode cX9_clears 21 = .ok (.aload_n 0, 1) := by decide +kernel
theorem dX9_clears_22 : decode cX9_clears 22 = .ok (.getfield 194, 3) := by decide +kernel
theorem dX9_clears_25 : decode cX9_clears 25 = .ok (.iload_n 1, 1) := by decide +kernel
theorem dX9_clears_26 : decode cX9_clears 26 = .ok (.iconst 0, 1) := by decide +kernel
theorem dX9_clears_27 : decode cX9_clears 27 = .ok (.iastore, 1) := by decide +kernel
theorem dX9_clears_28 : decode cX9_clears 28 = .ok (.aload_n 0, 1) := by decide +kernel
theorem dX9_clears_29 : decode cX9_clears 29 = .ok (.getfield 167, 3) := by decide +kernel
theorem dX9_clears_32 : decode cX9_clears 32 = .ok (.iload_n 1, 1) := by decide +kernel
theorem dX9_clears_33 : decode cX9_clears 33 = .ok (.iconst (-1), 1) := by decide +kernel
theorem dX9_clears_34 : decode cX9_clears 34 = .ok (.iastore, 1) := by decide +kernel
theorem dX9_clears_35 : decode cX9_clears 35 = .ok (.aload_n 0, 1) := by decide +kernel
theorem dX9_clears_36 : decode cX9_clears 36 = .ok (.getfield 170, 3) := by decide +kernel
theorem dX9_clears_39 : decode cX9_clears 39 = .ok (.iload_n 1, 1) := by decide +kernel
theorem dX9_clears_40 : decode cX9_clears 40 = .ok (.iconst (-1), 1) := by decide +kernel
theorem dX9_clears_41 : decode cX9_clears 41 = .ok (.iastore, 1) := by decide +kernel
theorem dX9_clears_42 : decode cX9_clears 42 = .ok (.return_, 1) := by decide +kernel
theorem dX9_powers_0 : decode cX9_powers 0 = .ok (.aload_n 0, 1) := by decide +kernel
theorem dX9_powers_1 : decode cX9_powers 1 = .ok (.getfield 107, 3) := by decide +kernel
theorem dX9_powers_4 : decode cX9_powers 4 = .ok (.sipush 300, 3) := by decide +kernel
theorem dX9_powers_7 : decode cX9_powers 7 = .ok (.iload_n 1, 1) := by decide +kernel
theorem dX9_powers_8 : decode cX9_powers 8 = .ok (.imul, 1) := by decide +kernel
theorem dX9_powers_9 : decode cX9_powers 9 = .ok (.iload_n 2, 1) := by decide +kernel
theorem dX9_powers_10 : decode cX9_powers 10 = .ok (.iadd, 1) := by decide +kernel
theorem dX9_powers_11 : decode cX9_powers 11 = .ok (.baload, 1) := by decide +kernel
theorem dX9_powers_12 : decode cX9_powers 12 = .ok (.ifCond .eq 31, 3) := by decide +kernel
theorem dX9_powers_15 : decode cX9_powers 15 = .ok (.aload_n 0, 1) := by decide +kernel
theorem dX9_powers_16 : decode cX9_powers 16 = .ok (.getfield 158, 3) := by decide +kernel
theorem dX9_powers_19 : decode cX9_powers 19 = .ok (.iload_n 1, 1) := by decide +kernel
theorem dX9_powers_20 : decode cX9_powers 20 = .ok (.iconst 0, 1) := by decide +kernel
theorem dX9_powers_21 : decode cX9_powers 21 = .ok (.iastore, 1) := by decide +kernel
theorem dX9_powers_22 : decode cX9_powers 22 = .ok (.aload_n 0, 1) := by decide +kernel
theorem dX9_powers_23 : decode cX9_powers 23 = .ok (.getfield 179, 3) := by decide +kernel
theorem dX9_powers_26 : decode cX9_powers 26 = .ok (.iload_n 1, 1) := by decide +kernel
theorem dX9_powers_27 : decode cX9_powers 27 = .ok (.iconst 0, 1) := by decide +kernel
theorem dX9_powers_28 : decode cX9_powers 28 = .ok (.iastore, 1) := by decide +kernel
theorem dX9_powers_29 : decode cX9_powers 29 = .ok (.aload_n 0, 1) := by decide +kernel
theorem dX9_powers_30 : decode cX9_powers 30 = .ok (.getfield 161, 3) := by decide +kernel
theorem dX9_powers_33 : decode cX9_powers 33 = .ok (.iload_n 1, 1) := by decide +kernel
theorem dX9_powers_34 : decode cX9_powers 34 = .ok (.iload_n 2, 1) := by decide +kernel
theorem dX9_powers_35 : decode cX9_powers 35 = .ok (.iconst 3, 1) := by decide +kernel
theorem dX9_powers_36 : decode cX9_powers 36 = .ok (.iadd, 1) := by decide +kernel
theorem dX9_powers_37 : decode cX9_powers 37 = .ok (.iastore, 1) := by decide +kernel
theorem dX9_powers_38 : decode cX9_powers 38 = .ok (.aload_n 0, 1) := by decide +kernel
theorem dX9_powers_39 : decode cX9_powers 39 = .ok (.iload_n 1, 1) := by decide +kernel
theorem dX9_powers_40 : decode cX9_powers 40 = .ok (.invokevirtual 353, 3) := by decide +kernel
theorem dX9_powers_43 : decode cX9_powers 43 = .ok (.aload_n 0, 1) := by decide +kernel
theorem dX9_powers_44 : decode cX9_powers 44 = .ok (.getfield 158, 3) := by decide +kernel
theorem dX9_powers_47 : decode cX9_powers 47 = .ok (.iload_n 1, 1) := by decide +kernel
theorem dX9_powers_48 : decode cX9_powers 48 = .ok (.iaload, 1) := by decide +kernel
theorem dX9_powers_49 : decode cX9_powers 49 = .ok (.ifCond .ne 28, 3) := by decide +kernel
theorem dX9_powers_52 : decode cX9_powers 52 = .ok (.iload_n 2, 1) := by decide +kernel
theorem dX9_powers_53 : decode cX9_powers 53 = .ok (.aload_n 0, 1) := by decide +kernel
theorem dX9_powers_54 : decode cX9_powers 54 = .ok (.getfield 161, 3) := by decide +kernel
theorem dX9_powers_57 : decode cX9_powers 57 = .ok (.iload_n 1, 1) := by decide +kernel
theorem dX9_powers_58 : decode cX9_powers 58 = .ok (.iaload, 1) := by decide +kernel
theorem dX9_powers_59 : decode cX9_powers 59 = .ok (.if_icmp .lt 18, 3) := by decide +kernel
theorem dX9_powers_62 : decode cX9_powers 62 = .ok (.iload_n 2, 1) := by decide +kernel
theorem dX9_powers_63 : decode cX9_powers 63 = .ok (.aload_n 0, 1) := by decide +kernel
theorem dX9_powers_64 : decode cX9_powers 64 = .ok (.getfield 95, 3) := by decide +kernel
theorem dX9_powers_67 : decode cX9_powers 67 = .ok (.aload_n 0, 1) := by decide +kernel
theorem dX9_powers_68 : decode cX9_powers 68 = .ok (.getfield 86, 3) := by decide +kernel
theorem dX9_powers_71 : decode cX9_powers 71 = .ok (.iload_n 1, 1) := by decide +kernel
theorem dX9_powers_72 : decode cX9_powers 72 = .ok (.iaload, 1) := by decide +kernel
theorem dX9_powers_73 : decode cX9_powers 73 = .ok (.iaload, 1) := by decide +kernel
theorem dX9_powers_74 : decode cX9_powers 74 = .ok (.if_icmp .ge 4, 3) := by decide +kernel
theorem dX9_powers_77 : decode cX9_powers 77 = .ok (.return_, 1) := by decide +kernel
theorem dX9_powers_78 : decode cX9_powers 78 = .ok (.aload_n 0, 1) := by decide +kernel
theorem dX9_powers_79 : decode cX9_powers 79 = .ok (.getfield 158, 3) := by decide +kernel
theorem dX9_powers_82 : decode cX9_powers 82 = .ok (.iload_n 1, 1) := by decide +kernel
theorem dX9_powers_83 : decode cX9_powers 83 = .ok (.iconst 1, 1) := by decide +kernel
theorem dX9_powers_84 : decode cX9_powers 84 = .ok (.iastore, 1) := by decide +kernel
theorem dX9_powers_85 : decode cX9_powers 85 = .ok (.aload_n 0, 1) := by decide +kernel
theorem dX9_powers_86 : decode cX9_powers 86 = .ok (.getfield 191, 3) := by decide +kernel
theorem dX9_powers_89 : decode cX9_powers 89 = .ok (.iload_n 1, 1) := by decide +kernel
theorem dX9_powers_90 : decode cX9_powers 90 = .ok (.dup2, 1) := by decide +kernel
theorem dX9_powers_91 : decode cX9_powers 91 = .ok (.iaload, 1) := by decide +kernel
theorem dX9_powers_92 : decode cX9_powers 92 = .ok (.iconst 1, 1) := by decide +kernel
theorem dX9_powers_93 : decode cX9_powers 93 = .ok (.iadd, 1) := by decide +kernel
theorem dX9_powers_94 : decode cX9_powers 94 = .ok (.iastore, 1) := by decide +kernel
theorem dX9_powers_95 : decode cX9_powers 95 = .ok (.aload_n 0, 1) := by decide +kernel
theorem dX9_powers_96 : decode cX9_powers 96 = .ok (.iload_n 1, 1) := by decide +kernel
theorem dX9_powers_97 : decode cX9_powers 97 = .ok (.invokevirtual 353, 3) := by decide +kernel
theorem dX9_powers_100 : decode cX9_powers 100 = .ok (.aload_n 0, 1) := by decide +kernel
theorem dX9_powers_101 : decode cX9_powers 101 = .ok (.getfield 164, 3) := by decide +kernel
theorem dX9_powers_104 : decode cX9_powers 104 = .ok (.iload_n 1, 1) := by decide +kernel
theorem dX9_powers_105 : decode cX9_powers 105 = .ok (.iload_n 2, 1) := by decide +kernel
theorem dX9_powers_106 : decode cX9_powers 106 = .ok (.iastore, 1) := by decide +kernel
theorem dX9_powers_107 : decode cX9_powers 107 = .ok (.return_, 1) := by decide +kernel
theorem dX9_rescue_0 : decode cX9_rescue 0 = .ok (.aload_n 0, 1) := by decide +kernel
theorem dX9_rescue_1 : decode cX9_rescue 1 = .ok (.getfield 158, 3) := by decide +kernel
theorem dX9_rescue_4 : decode cX9_rescue 4 = .ok (.iload_n 1, 1) := by decide +kernel
theorem dX9_rescue_5 : decode cX9_rescue 5 = .ok (.iconst 5, 1) := by decide +kernel
theorem dX9_rescue_6 : decode cX9_rescue 6 = .ok (.iastore, 1) := by decide +kernel
theorem dX9_rescue_7 : decode cX9_rescue 7 = .ok (.aload_n 0, 1) := by decide +kernel
theorem dX9_rescue_8 : decode cX9_rescue 8 = .ok (.getfield 179, 3) := by decide +kernel
theorem dX9_rescue_11 : decode cX9_rescue 11 = .ok (.iload_n 1, 1) := by decide +kernel
theorem dX9_rescue_12 : decode cX9_rescue 12 = .ok (.iload_n 2, 1) := by decide +kernel
theorem dX9_rescue_13 : decode cX9_rescue 13 = .ok (.iastore, 1) := by decide +kernel
theorem dX9_rescue_14 : decode cX9_rescue 14 = .ok (.aload_n 0, 1) := by decide +kernel
theorem dX9_rescue_15 : decode cX9_rescue 15 = .ok (.getfield 194, 3) := by decide +kernel
theorem dX9_rescue_18 : decode cX9_rescue 18 = .ok (.iload_n 1, 1) := by decide +kernel
theorem dX9_rescue_19 : decode cX9_rescue 19 = .ok (.iconst 0, 1) := by decide +kernel
theorem dX9_rescue_20 : decode cX9_rescue 20 = .ok (.iastore, 1) := by decide +kernel
theorem dX9_rescue_21 : decode cX9_rescue 21 = .ok (.aload_n 0, 1) := by decide +kernel
theorem dX9_rescue_22 : decode cX9_rescue 22 = .ok (.getfield 167, 3) := by decide +kernel
theorem dX9_rescue_25 : decode cX9_rescue 25 = .ok (.iload_n 1, 1) := by decide +kernel
theorem dX9_rescue_26 : decode cX9_rescue 26 = .ok (.iconst (-1), 1) := by decide +kernel
theorem dX9_rescue_27 : decode cX9_rescue 27 = .ok (.iastore, 1) := by decide +kernel
theorem dX9_rescue_28 : decode cX9_rescue 28 = .ok (.aload_n 0, 1) := by decide +kernel
theorem dX9_rescue_29 : decode cX9_rescue 29 = .ok (.getfield 170, 3) := by decide +kernel
theorem dX9_rescue_32 : decode cX9_rescue 32 = .ok (.iload_n 1, 1) := by decide +kernel
theorem dX9_rescue_33 : decode cX9_rescue 33 = .ok (.iconst (-1), 1) := by decide +kernel
theorem dX9_rescue_34 : decode cX9_rescue 34 = .ok (.iastore, 1) := by decide +kernel
theorem dX9_rescue_35 : decode cX9_rescue 35 = .ok (.return_, 1) := by decide +kernel
theorem dX9_question_0 : decode cX9_question 0 = .ok (.aload_n 0, 1) := by decide +kernel
theorem dX9_question_1 : decode cX9_question 1 = .ok (.iload_n 1, 1) := by decide +kernel
theorem dX9_question_2 : decode cX9_question 2 = .ok (.aload_n 0, 1) := by decide +kernel
theorem dX9_question_3 : decode cX9_question 3 = .ok (.getfield 182, 3) := by decide +kernel
theorem dX9_question_6 : decode cX9_question 6 = .ok (.iload_n 1, 1) := by decide +kernel
theorem dX9_question_7 : decode cX9_question 7 = .ok (.iaload, 1) := by decide +kernel
theorem dX9_question_8 : decode cX9_question 8 = .ok (.aload_n 0, 1) := by decide +kernel
theorem dX9_question_9 : decode cX9_question 9 = .ok (.getfield 185, 3) := by decide +kernel
theorem dX9_question_12 : decode cX9_question 12 = .ok (.iload_n 1, 1) := by decide +kernel
theorem dX9_question_13 : decode cX9_question 13 = .ok (.iaload, 1) := by decide +kernel
theorem dX9_question_14 : decode cX9_question 14 = .ok (.aload_n 0, 1) := by decide +kernel
theorem dX9_question_15 : decode cX9_question 15 = .ok (.getfield 191, 3) := by decide +kernel
theorem dX9_question_18 : decode cX9_question 18 = .ok (.iload_n 1, 1) := by decide +kernel
theorem dX9_question_19 : decode cX9_question 19 = .ok (.iaload, 1) := by decide +kernel
theorem dX9_question_20 : decode cX9_question 20 = .ok (.iload_n 2, 1) := by decide +kernel
theorem dX9_question_21 : decode cX9_question 21 = .ok (.invokevirtual 371, 3) := by decide +kernel
theorem dX9_question_24 : decode cX9_question 24 = .ok (.iconst (-1), 1) := by decide +kernel
theorem dX9_question_25 : decode cX9_question 25 = .ok (.istore_n 3, 1) := by decide +kernel
theorem dX9_question_26 : decode cX9_question 26 = .ok (.iconst 0, 1) := by decide +kernel
theorem dX9_question_27 : decode cX9_question 27 = .ok (.istore 4, 2) := by decide +kernel
theorem dX9_question_29 : decode cX9_question 29 = .ok (.iload 4, 2) := by decide +kernel
theorem dX9_question_31 : decode cX9_question 31 = .ok (.iconst 2, 1) := by decide +kernel
theorem dX9_question_32 : decode cX9_question 32 = .ok (.if_icmp .ge 52, 3) := by decide +kernel
theorem dX9_question_35 : decode cX9_question 35 = .ok (.iload_n 3, 1) := by decide +kernel
theorem dX9_question_36 : decode cX9_question 36 = .ok (.iconst (-1), 1) := by decide +kernel
theorem dX9_question_37 : decode cX9_question 37 = .ok (.if_icmp .ne 47, 3) := by decide +kernel
theorem dX9_question_40 : decode cX9_question 40 = .ok (.aload_n 0, 1) := by decide +kernel
theorem dX9_question_41 : decode cX9_question 41 = .ok (.getfield 104, 3) := by decide +kernel
theorem dX9_question_44 : decode cX9_question 44 = .ok (.sipush 300, 3) := by decide +kernel
theorem dX9_question_47 : decode cX9_question 47 = .ok (.iload_n 1, 1) := by decide +kernel
theorem dX9_question_48 : decode cX9_question 48 = .ok (.imul, 1) := by decide +kernel
theorem dX9_question_49 : decode cX9_question 49 = .ok (.iload_n 2, 1) := by decide +kernel
theorem dX9_question_50 : decode cX9_question 50 = .ok (.iadd, 1) := by decide +kernel
theorem dX9_question_51 : decode cX9_question 51 = .ok (.baload, 1) := by decide +kernel
theorem dX9_question_52 : decode cX9_question 52 = .ok (.ifCond .ne 26, 3) := by decide +kernel
theorem dX9_question_55 : decode cX9_question 55 = .ok (.aload_n 0, 1) := by decide +kernel
theorem dX9_question_56 : decode cX9_question 56 = .ok (.getfield 110, 3) := by decide +kernel
theorem dX9_question_59 : decode cX9_question 59 = .ok (.sipush 300, 3) := by decide +kernel
theorem dX9_question_62 : decode cX9_question 62 = .ok (.iload 4, 2) := by decide +kernel
theorem dX9_question_64 : decode cX9_question 64 = .ok (.imul, 1) := by decide +kernel
theorem dX9_question_65 : decode cX9_question 65 = .ok (.iload_n 2, 1) := by decide +kernel
theorem dX9_question_66 : decode cX9_question 66 = .ok (.iadd, 1) := by decide +kernel
theorem dX9_question_67 : decode cX9_question 67 = .ok (.baload, 1) := by decide +kernel
theorem dX9_question_68 : decode cX9_question 68 = .ok (.ifCond .ne 10, 3) := by decide +kernel
theorem dX9_question_71 : decode cX9_question 71 = .ok (.aload_n 0, 1) := by decide +kernel
theorem dX9_question_72 : decode cX9_question 72 = .ok (.iload 4, 2) := by decide +kernel
theorem dX9_question_74 : decode cX9_question 74 = .ok (.invokevirtual 375, 3) := by decide +kernel
theorem dX9_question_77 : decode cX9_question 77 = .ok (.istore_n 3, 1) := by decide +kernel
theorem dX9_question_78 : decode cX9_question 78 = .ok (.iinc 4 1, 3) := by decide +kernel
theorem dX9_question_81 : decode cX9_question 81 = .ok (.goto (-52), 3) := by decide +kernel
theorem dX9_question_84 : decode cX9_question 84 = .ok (.iload_n 3, 1) := by decide +kernel
theorem dX9_question_85 : decode cX9_question 85 = .ok (.ifCond .lt 106, 3) := by decide +kernel
theorem dX9_question_88 : decode cX9_question 88 = .ok (.iconst 0, 1) := by decide +kernel
theorem dX9_question_89 : decode cX9_question 89 = .ok (.istore 4, 2) := by decide +kernel
theorem dX9_question_91 : decode cX9_question 91 = .ok (.iload 4, 2) := by decide +kernel
theorem dX9_question_93 : decode cX9_question 93 = .ok (.aload_n 0, 1) := by decide +kernel
theorem dX9_question_94 : decode cX9_question 94 = .ok (.getfield 317, 3) := by decide +kernel
theorem dX9_question_97 : decode cX9_question 97 = .ok (.if_icmp .ge 56, 3) := by decide +kernel
theorem dX9_question_100 : decode cX9_question 100 = .ok (.iload 4, 2) := by decide +kernel
theorem dX9_question_102 : decode cX9_question 102 = .ok (.iload_n 1, 1) := by decide +kernel
theorem dX9_question_103 : decode cX9_question 103 = .ok (.if_icmp .eq 44, 3) := by decide +kernel
theorem dX9_question_106 : decode cX9_question 106 = .ok (.aload_n 0, 1) := by decide +kernel
theorem dX9_question_107 : decode cX9_question 107 = .ok (.getfield 343, 3) := by decide +kernel
theorem dX9_question_110 : decode cX9_question 110 = .ok (.aload_n 0, 1) := by decide +kernel
theorem dX9_question_111 : decode cX9_question 111 = .ok (.getfield 86, 3) := by decide +kernel
theorem dX9_question_114 : decode cX9_question 114 = .ok (.iload 4, 2) := by decide +kernel
theorem dX9_question_116 : decode cX9_question 116 = .ok (.iaload, 1) := by decide +kernel
theorem dX9_question_117 : decode cX9_question 117 = .ok (.ishr, 1) := by decide +kernel
theorem dX9_question_118 : decode cX9_question 118 = .ok (.iconst 1, 1) := by decide +kernel
theorem dX9_question_119 : decode cX9_question 119 = .ok (.iand, 1) := by decide +kernel
theorem dX9_question_120 : decode cX9_question 120 = .ok (.ifCond .eq 27, 3) := by decide +kernel
theorem dX9_question_123 : decode cX9_question 123 = .ok (.aload_n 0, 1) := by decide +kernel
theorem dX9_question_124 : decode cX9_question 124 = .ok (.getfield 158, 3) := by decide +kernel
theorem dX9_question_127 : decode cX9_question 127 = .ok (.iload 4, 2) := by decide +kernel
theorem dX9_question_129 : decode cX9_question 129 = .ok (.iaload, 1) := by decide +kernel
theorem dX9_question_130 : decode cX9_question 130 = .ok (.iconst 4, 1) := by decide +kernel
theorem dX9_question_131 : decode cX9_question 131 = .ok (.if_icmp .ne 6, 3) := by decide +kernel
theorem dX9_question_134 : decode cX9_question 134 = .ok (.goto 13, 3) := by decide +kernel
theorem dX9_question_137 : decode cX9_question 137 = .ok (.aload_n 0, 1) := by decide +kernel
theorem dX9_question_138 : decode cX9_question 138 = .ok (.getfield 164, 3) := by decide +kernel
theorem dX9_question_141 : decode cX9_question 141 = .ok (.iload_n 1, 1) := by decide +kernel
theorem dX9_question_142 : decode cX9_question 142 = .ok (.iload_n 2, 1) := by decide +kernel
theorem dX9_question_143 : decode cX9_question 143 = .ok (.iconst 1, 1) := by decide +kernel
theorem dX9_question_144 : decode cX9_question 144 = .ok (.iadd, 1) := by decide +kernel
theorem dX9_question_145 : decode cX9_question 145 = .ok (.iastore, 1) := by decide +kernel
theorem dX9_question_146 : decode cX9_question 146 = .ok (.return_, 1) := by decide +kernel
theorem dX9_question_147 : decode cX9_question 147 = .ok (.iinc 4 1, 3) := by decide +kernel
theorem dX9_question_150 : decode cX9_question 150 = .ok (.goto (-59), 3) := by decide +kernel
theorem dX9_question_153 : decode cX9_question 153 = .ok (.aload_n 0, 1) := by decide +kernel
theorem dX9_question_154 : decode cX9_question 154 = .ok (.getfield 158, 3) := by decide +kernel
theorem dX9_question_157 : decode cX9_question 157 = .ok (.iload_n 1, 1) := by decide +kernel
theorem dX9_question_158 : decode cX9_question 158 = .ok (.iconst 2, 1) := by decide +kernel
theorem dX9_question_159 : decode cX9_question 159 = .ok (.iastore, 1) := by decide +kernel
theorem dX9_question_160 : decode cX9_question 160 = .ok (.aload_n 0, 1) := by decide +kernel
theorem dX9_question_161 : decode cX9_question 161 = .ok (.getfield 167, 3) := by decide +kernel
theorem dX9_question_164 : decode cX9_question 164 = .ok (.iload_n 1, 1) := by decide +kernel
theorem dX9_question_165 : decode cX9_question 165 = .ok (.iload_n 3, 1) := by decide +kernel
theorem dX9_question_166 : decode cX9_question 166 = .ok (.iastore, 1) := by decide +kernel
theorem dX9_question_167 : decode cX9_question 167 = .ok (.aload_n 0, 1) := by decide +kernel
theorem dX9_question_168 : decode cX9_question 168 = .ok (.getfield 170, 3) := by decide +kernel
theorem dX9_question_171 : decode cX9_question 171 = .ok (.iload_n 1, 1) := by decide +kernel
theorem dX9_question_172 : decode cX9_question 172 = .ok (.iconst 0, 1) := by decide +kernel
theorem dX9_question_173 : decode cX9_question 173 = .ok (.iastore, 1) := by decide +kernel
theorem dX9_question_174 : decode cX9_question 174 = .ok (.aload_n 0, 1) := by decide +kernel
theorem dX9_question_175 : decode cX9_question 175 = .ok (.getfield 173, 3) := by decide +kernel
theorem dX9_question_178 : decode cX9_question 178 = .ok (.iload_n 1, 1) := by decide +kernel
theorem dX9_question_179 : decode cX9_question 179 = .ok (.iload_n 2, 1) := by decide +kernel
theorem dX9_question_180 : decode cX9_question 180 = .ok (.iconst 1, 1) := by decide +kernel
theorem dX9_question_181 : decode cX9_question 181 = .ok (.iadd, 1) := by decide +kernel
theorem dX9_question_182 : decode cX9_question 182 = .ok (.iastore, 1) := by decide +kernel
theorem dX9_question_183 : decode cX9_question 183 = .ok (.aload_n 0, 1) := by decide +kernel
theorem dX9_question_184 : decode cX9_question 184 = .ok (.getfield 194, 3) := by decide +kernel
theorem dX9_question_187 : decode cX9_question 187 = .ok (.iload_n 1, 1) := by decide +kernel
theorem dX9_question_188 : decode cX9_question 188 = .ok (.iconst 1, 1) := by decide +kernel
theorem dX9_question_189 : decode cX9_question 189 = .ok (.iastore, 1) := by decide +kernel
theorem dX9_question_190 : decode cX9_question 190 = .ok (.return_, 1) := by decide +kernel
theorem dX9_question_191 : decode cX9_question 191 = .ok (.aload_n 0, 1) := by decide +kernel
theorem dX9_question_192 : decode cX9_question 192 = .ok (.getfield 182, 3) := by decide +kernel
theorem dX9_question_195 : decode cX9_question 195 = .ok (.iload_n 1, 1) := by decide +kernel
theorem dX9_question_196 : decode cX9_question 196 = .ok (.dup2, 1) := by decide +kernel
theorem dX9_question_197 : decode cX9_question 197 = .ok (.iaload, 1) := by decide +kernel
theorem dX9_question_198 : decode cX9_question 198 = .ok (.iconst 1, 1) := by decide +kernel
theorem dX9_question_199 : decode cX9_question 199 = .ok (.iadd, 1) := by decide +kernel
theorem dX9_question_200 : decode cX9_question 200 = .ok (.iastore, 1) := by decide +kernel
theorem dX9_question_201 : decode cX9_question 201 = .ok (.aload_n 0, 1) := by decide +kernel
theorem dX9_question_202 : decode cX9_question 202 = .ok (.getfield 182, 3) := by decide +kernel
theorem dX9_question_205 : decode cX9_question 205 = .ok (.iload_n 1, 1) := by decide +kernel
theorem dX9_question_206 : decode cX9_question 206 = .ok (.iaload, 1) := by decide +kernel
theorem dX9_question_207 : decode cX9_question 207 = .ok (.iconst 5, 1) := by decide +kernel
theorem dX9_question_208 : decode cX9_question 208 = .ok (.if_icmp .ne 21, 3) := by decide +kernel
theorem dX9_question_211 : decode cX9_question 211 = .ok (.aload_n 0, 1) := by decide +kernel
theorem dX9_question_212 : decode cX9_question 212 = .ok (.iload_n 1, 1) := by decide +kernel
theorem dX9_question_213 : decode cX9_question 213 = .ok (.iload_n 3, 1) := by decide +kernel
theorem dX9_question_214 : decode cX9_question 214 = .ok (.iconst (-1), 1) := by decide +kernel
theorem dX9_question_215 : decode cX9_question 215 = .ok (.if_icmp .ne 7, 3) := by decide +kernel
theorem dX9_question_218 : decode cX9_question 218 = .ok (.iconst 1, 1) := by decide +kernel
theorem dX9_question_219 : decode cX9_question 219 = .ok (.goto 4, 3) := by decide +kernel
theorem dX9_question_222 : decode cX9_question 222 = .ok (.iconst 2, 1) := by decide +kernel
theorem dX9_question_223 : decode cX9_question 223 = .ok (.invokevirtual 378, 3) := by decide +kernel
theorem dX9_question_226 : decode cX9_question 226 = .ok (.goto 19, 3) := by decide +kernel
theorem dX9_question_229 : decode cX9_question 229 = .ok (.aload_n 0, 1) := by decide +kernel
theorem dX9_question_230 : decode cX9_question 230 = .ok (.getfield 164, 3) := by decide +kernel
theorem dX9_question_233 : decode cX9_question 233 = .ok (.iload_n 1, 1) := by decide +kernel
theorem dX9_question_234 : decode cX9_question 234 = .ok (.iload_n 2, 1) := by decide +kernel
theorem dX9_question_235 : decode cX9_question 235 = .ok (.iconst 1, 1) := by decide +kernel
theorem dX9_question_236 : decode cX9_question 236 = .ok (.aload_n 0, 1) := by decide +kernel
theorem dX9_question_237 : decode cX9_question 237 = .ok (.getfield 182, 3) := by decide +kernel
theorem dX9_question_240 : decode cX9_question 240 = .ok (.iload_n 1, 1) := by decide +kernel
theorem dX9_question_241 : decode cX9_question 241 = .ok (.iaload, 1) := by decide +kernel
theorem dX9_question_242 : decode cX9_question 242 = .ok (.ishl, 1) := by decide +kernel
theorem dX9_question_243 : decode cX9_question 243 = .ok (.iadd, 1) := by decide +kernel
theorem dX9_question_244 : decode cX9_question 244 = .ok (.iastore, 1) := by decide +kernel
theorem dX9_question_245 : decode cX9_question 245 = .ok (.return_, 1) := by decide +kernel
theorem dX9_wants_0 : decode cX9_wants 0 = .ok (.aload_n 0, 1) := by decide +kernel
theorem dX9_wants_1 : decode cX9_wants 1 = .ok (.getfield 158, 3) := by decide +kernel
theorem dX9_wants_4 : decode cX9_wants 4 = .ok (.iload_n 1, 1) := by decide +kernel
theorem dX9_wants_5 : decode cX9_wants 5 = .ok (.iaload, 1) := by decide +kernel
theorem dX9_wants_6 : decode cX9_wants 6 = .ok (.iconst 2, 1) := by decide +kernel
theorem dX9_wants_7 : decode cX9_wants 7 = .ok (.if_icmp .ne 17, 3) := by decide +kernel
theorem dX9_wants_10 : decode cX9_wants 10 = .ok (.aload_n 0, 1) := by decide +kernel
theorem dX9_wants_11 : decode cX9_wants 11 = .ok (.getfield 173, 3) := by decide +kernel
theorem dX9_wants_14 : decode cX9_wants 14 = .ok (.iload_n 1, 1) := by decide +kernel
theorem dX9_wants_15 : decode cX9_wants 15 = .ok (.iaload, 1) := by decide +kernel
theorem dX9_wants_16 : decode cX9_wants 16 = .ok (.iload_n 2, 1) := by decide +kernel
theorem dX9_wants_17 : decode cX9_wants 17 = .ok (.if_icmp .gt 7, 3) := by decide +kernel
theorem dX9_wants_20 : decode cX9_wants 20 = .ok (.iconst 1, 1) := by decide +kernel
theorem dX9_wants_21 : decode cX9_wants 21 = .ok (.goto 4, 3) := by decide +kernel
theorem dX9_wants_24 : decode cX9_wants 24 = .ok (.iconst 0, 1) := by decide +kernel
theorem dX9_wants_25 : decode cX9_wants 25 = .ok (.ireturn, 1) := by decide +kernel
theorem dX9_gives_0 : decode cX9_gives 0 = .ok (.iconst 0, 1) := by decide +kernel
theorem dX9_gives_1 : decode cX9_gives 1 = .ok (.istore_n 2, 1) := by decide +kernel
theorem dX9_gives_2 : decode cX9_gives 2 = .ok (.iload_n 2, 1) := by decide +kernel
theorem dX9_gives_3 : decode cX9_gives 3 = .ok (.bipush 72, 2) := by decide +kernel
theorem dX9_gives_5 : decode cX9_gives 5 = .ok (.if_icmp .ge 16, 3) := by decide +kernel
theorem dX9_gives_8 : decode cX9_gives 8 = .ok (.aload_n 0, 1) := by decide +kernel
theorem dX9_gives_9 : decode cX9_gives 9 = .ok (.getfield 197, 3) := by decide +kernel
theorem dX9_gives_12 : decode cX9_gives 12 = .ok (.iload_n 2, 1) := by decide +kernel
theorem dX9_gives_13 : decode cX9_gives 13 = .ok (.iconst 0, 1) := by decide +kernel
theorem dX9_gives_14 : decode cX9_gives 14 = .ok (.bastore, 1) := by decide +kernel
theorem dX9_gives_15 : decode cX9_gives 15 = .ok (.iinc 2 1, 3) := by decide +kernel
theorem dX9_gives_18 : decode cX9_gives 18 = .ok (.goto (-16), 3) := by decide +kernel
theorem dX9_gives_21 : decode cX9_gives 21 = .ok (.iconst 0, 1) := by decide +kernel
theorem dX9_gives_22 : decode cX9_gives 22 = .ok (.istore_n 2, 1) := by decide +kernel
theorem dX9_gives_23 : decode cX9_gives 23 = .ok (.iload_n 2, 1) := by decide +kernel
theorem dX9_gives_24 : decode cX9_gives 24 = .ok (.aload_n 0, 1) := by decide +kernel
theorem dX9_gives_25 : decode cX9_gives 25 = .ok (.getfield 317, 3) := by decide +kernel
theorem dX9_gives_28 : decode cX9_gives 28 = .ok (.if_icmp .ge 16, 3) := by decide +kernel
theorem dX9_gives_31 : decode cX9_gives 31 = .ok (.aload_n 0, 1) := by decide +kernel
theorem dX9_gives_32 : decode cX9_gives 32 = .ok (.getfield 200, 3) := by decide +kernel
theorem dX9_gives_35 : decode cX9_gives 35 = .ok (.iload_n 2, 1) := by decide +kernel
theorem dX9_gives_36 : decode cX9_gives 36 = .ok (.iconst 0, 1) := by decide +kernel
theorem dX9_gives_37 : decode cX9_gives 37 = .ok (.bastore, 1) := by decide +kernel
theorem dX9_gives_38 : decode cX9_gives 38 = .ok (.iinc 2 1, 3) := by decide +kernel
theorem dX9_gives_41 : decode cX9_gives 41 = .ok (.goto (-18), 3) := by decide +kernel
theorem dX9_gives_44 : decode cX9_gives 44 = .ok (.iconst 0, 1) := by decide +kernel
theorem dX9_gives_45 : decode cX9_gives 45 = .ok (.istore_n 2, 1) := by decide +kernel
theorem dX9_gives_46 : decode cX9_gives 46 = .ok (.iconst 0, 1) := by decide +kernel
theorem dX9_gives_47 : decode cX9_gives 47 = .ok (.istore_n 3, 1) := by decide +kernel
theorem dX9_gives_48 : decode cX9_gives 48 = .ok (.iload_n 3, 1) := by decide +kernel
theorem dX9_gives_49 : decode cX9_gives 49 = .ok (.aload_n 0, 1) := by decide +kernel
theorem dX9_gives_50 : decode cX9_gives 50 = .ok (.getfield 317, 3) := by decide +kernel
theorem dX9_gives_53 : decode cX9_gives 53 = .ok (.if_icmp .ge 157, 3) := by decide +kernel
theorem dX9_gives_56 : decode cX9_gives 56 = .ok (.iconst (-1), 1) := by decide +kernel
theorem dX9_gives_57 : decode cX9_gives 57 = .ok (.istore 4, 2) := by decide +kernel
theorem dX9_gives_59 : decode cX9_gives 59 = .ok (.iconst 0, 1) := by decide +kernel
theorem dX9_gives_60 : decode cX9_gives 60 = .ok (.istore 5, 2) := by decide +kernel
theorem dX9_gives_62 : decode cX9_gives 62 = .ok (.iload 5, 2) := by decide +kernel
theorem dX9_gives_64 : decode cX9_gives 64 = .ok (.aload_n 0, 1) := by decide +kernel
theorem dX9_gives_65 : decode cX9_gives 65 = .ok (.getfield 317, 3) := by decide +kernel
theorem dX9_gives_68 : decode cX9_gives 68 = .ok (.if_icmp .ge 56, 3) := by decide +kernel
theorem dX9_gives_71 : decode cX9_gives 71 = .ok (.aload_n 0, 1) := by decide +kernel
theorem dX9_gives_72 : decode cX9_gives 72 = .ok (.iload 5, 2) := by decide +kernel
theorem dX9_gives_74 : decode cX9_gives 74 = .ok (.iload_n 1, 1) := by decide +kernel
theorem dX9_gives_75 : decode cX9_gives 75 = .ok (.invokevirtual 381, 3) := by decide +kernel
theorem dX9_gives_78 : decode cX9_gives 78 = .ok (.ifCond .eq 40, 3) := by decide +kernel
theorem dX9_gives_81 : decode cX9_gives 81 = .ok (.aload_n 0, 1) := by decide +kernel
theorem dX9_gives_82 : decode cX9_gives 82 = .ok (.getfield 200, 3) := by decide +kernel
theorem dX9_gives_85 : decode cX9_gives 85 = .ok (.iload 5, 2) := by decide +kernel
theorem dX9_gives_87 : decode cX9_gives 87 = .ok (.baload, 1) := by decide +kernel
theorem dX9_gives_88 : decode cX9_gives 88 = .ok (.ifCond .ne 30, 3) := by decide +kernel
theorem dX9_gives_91 : decode cX9_gives 91 = .ok (.iload 4, 2) := by decide +kernel
theorem dX9_gives_93 : decode cX9_gives 93 = .ok (.iconst (-1), 1) := by decide +kernel
theorem dX9_gives_94 : decode cX9_gives 94 = .ok (.if_icmp .eq 20, 3) := by decide +kernel
theorem dX9_gives_97 : decode cX9_gives 97 = .ok (.aload_n 0, 1) := by decide +kernel
theorem dX9_gives_98 : decode cX9_gives 98 = .ok (.getfield 173, 3) := by decide +kernel
theorem dX9_gives_101 : decode cX9_gives 101 = .ok (.iload 5, 2) := by decide +kernel
theorem dX9_gives_103 : decode cX9_gives 103 = .ok (.iaload, 1) := by decide +kernel
theorem dX9_gives_104 : decode cX9_gives 104 = .ok (.aload_n 0, 1) := by decide +kernel
theorem dX9_gives_105 : decode cX9_gives 105 = .ok (.getfield 173, 3) := by decide +kernel
theorem dX9_gives_108 : decode cX9_gives 108 = .ok (.iload 4, 2) := by decide +kernel
theorem dX9_gives_110 : decode cX9_gives 110 = .ok (.iaload, 1) := by decide +kernel
theorem dX9_gives_111 : decode cX9_gives 111 = .ok (.if_icmp .ge 7, 3) := by decide +kernel
theorem dX9_gives_114 : decode cX9_gives 114 = .ok (.iload 5, 2) := by decide +kernel
theorem dX9_gives_116 : decode cX9_gives 116 = .ok (.istore 4, 2) := by decide +kernel
theorem dX9_gives_118 : decode cX9_gives 118 = .ok (.iinc 5 1, 3) := by decide +kernel
theorem dX9_gives_121 : decode cX9_gives 121 = .ok (.goto (-59), 3) := by decide +kernel
theorem dX9_gives_124 : decode cX9_gives 124 = .ok (.iload 4, 2) := by decide +kernel
theorem dX9_gives_126 : decode cX9_gives 126 = .ok (.iconst (-1), 1) := by decide +kernel
theorem dX9_gives_127 : decode cX9_gives 127 = .ok (.if_icmp .ne 6, 3) := by decide +kernel
theorem dX9_gives_130 : decode cX9_gives 130 = .ok (.goto 80, 3) := by decide +kernel
theorem dX9_gives_133 : decode cX9_gives 133 = .ok (.aload_n 0, 1) := by decide +kernel
theorem dX9_gives_134 : decode cX9_gives 134 = .ok (.getfield 200, 3) := by decide +kernel
theorem dX9_gives_137 : decode cX9_gives 137 = .ok (.iload 4, 2) := by decide +kernel
theorem dX9_gives_139 : decode cX9_gives 139 = .ok (.iconst 1, 1) := by decide +kernel
theorem dX9_gives_140 : decode cX9_gives 140 = .ok (.bastore, 1) := by decide +kernel
theorem dX9_gives_141 : decode cX9_gives 141 = .ok (.bipush 12, 2) := by decide +kernel
theorem dX9_gives_143 : decode cX9_gives 143 = .ok (.aload_n 0, 1) := by decide +kernel
theorem dX9_gives_144 : decode cX9_gives 144 = .ok (.getfield 167, 3) := by decide +kernel
theorem dX9_gives_147 : decode cX9_gives 147 = .ok (.iload 4, 2) := by decide +kernel
theorem dX9_gives_149 : decode cX9_gives 149 = .ok (.iaload, 1) := by decide +kernel
theorem dX9_gives_150 : decode cX9_gives 150 = .ok (.imul, 1) := by decide +kernel
theorem dX9_gives_151 : decode cX9_gives 151 = .ok (.aload_n 0, 1) := by decide +kernel
theorem dX9_gives_152 : decode cX9_gives 152 = .ok (.getfield 170, 3) := by decide +kernel
theorem dX9_gives_155 : decode cX9_gives 155 = .ok (.iload 4, 2) := by decide +kernel
theorem dX9_gives_157 : decode cX9_gives 157 = .ok (.iaload, 1) := by decide +kernel
theorem dX9_gives_158 : decode cX9_gives 158 = .ok (.iadd, 1) := by decide +kernel
theorem dX9_gives_159 : decode cX9_gives 159 = .ok (.istore 5, 2) := by decide +kernel
theorem dX9_gives_161 : decode cX9_gives 161 = .ok (.aload_n 0, 1) := by decide +kernel
theorem dX9_gives_162 : decode cX9_gives 162 = .ok (.getfield 197, 3) := by decide +kernel
theorem dX9_gives_165 : decode cX9_gives 165 = .ok (.iload 5, 2) := by decide +kernel
theorem dX9_gives_167 : decode cX9_gives 167 = .ok (.baload, 1) := by decide +kernel
theorem dX9_gives_168 : decode cX9_gives 168 = .ok (.ifCond .ne 36, 3) := by decide +kernel
theorem dX9_gives_171 : decode cX9_gives 171 = .ok (.iload_n 2, 1) := by decide +kernel
theorem dX9_gives_172 : decode cX9_gives 172 = .ok (.aload_n 0, 1) := by decide +kernel
theorem dX9_gives_173 : decode cX9_gives 173 = .ok (.getfield 210, 3) := by decide +kernel
theorem dX9_gives_176 : decode cX9_gives 176 = .ok (.if_icmp .ne 6, 3) := by decide +kernel
theorem dX9_gives_179 : decode cX9_gives 179 = .ok (.goto 25, 3) := by decide +kernel
theorem dX9_gives_182 : decode cX9_gives 182 = .ok (.aload_n 0, 1) := by decide +kernel
theorem dX9_gives_183 : decode cX9_gives 183 = .ok (.getfield 197, 3) := by decide +kernel
theorem dX9_gives_186 : decode cX9_gives 186 = .ok (.iload 5, 2) := by decide +kernel
theorem dX9_gives_188 : decode cX9_gives 188 = .ok (.iconst 1, 1) := by decide +kernel
theorem dX9_gives_189 : decode cX9_gives 189 = .ok (.bastore, 1) := by decide +kernel
theorem dX9_gives_190 : decode cX9_gives 190 = .ok (.iinc 2 1, 3) := by decide +kernel
theorem dX9_gives_193 : decode cX9_gives 193 = .ok (.aload_n 0, 1) := by decide +kernel
theorem dX9_gives_194 : decode cX9_gives 194 = .ok (.getfield 155, 3) := by decide +kernel
theorem dX9_gives_197 : decode cX9_gives 197 = .ok (.iload 5, 2) := by decide +kernel
theorem dX9_gives_199 : decode cX9_gives 199 = .ok (.dup2, 1) := by decide +kernel
theorem dX9_gives_200 : decode cX9_gives 200 = .ok (.iaload, 1) := by decide +kernel
theorem dX9_gives_201 : decode cX9_gives 201 = .ok (.iconst 1, 1) := by decide +kernel
theorem dX9_gives_202 : decode cX9_gives 202 = .ok (.iadd, 1) := by decide +kernel
theorem dX9_gives_203 : decode cX9_gives 203 = .ok (.iastore, 1) := by decide +kernel
theorem dX9_gives_204 : decode cX9_gives 204 = .ok (.iinc 3 1, 3) := by decide +kernel
theorem dX9_gives_207 : decode cX9_gives 207 = .ok (.goto (-159), 3) := by decide +kernel
theorem dX9_gives_210 : decode cX9_gives 210 = .ok (.aload_n 0, 1) := by decide +kernel
theorem dX9_gives_211 : decode cX9_gives 211 = .ok (.getfield 152, 3) := by decide +kernel
theorem dX9_gives_214 : decode cX9_gives 214 = .ok (.iload_n 1, 1) := by decide +kernel
theorem dX9_gives_215 : decode cX9_gives 215 = .ok (.iload_n 2, 1) := by decide +kernel
theorem dX9_gives_216 : decode cX9_gives 216 = .ok (.iastore, 1) := by decide +kernel
theorem dX9_gives_217 : decode cX9_gives 217 = .ok (.aload_n 0, 1) := by decide +kernel
theorem dX9_gives_218 : decode cX9_gives 218 = .ok (.dup, 1) := by decide +kernel
theorem dX9_gives_219 : decode cX9_gives 219 = .ok (.getfield 350, 3) := by decide +kernel
theorem dX9_gives_222 : decode cX9_gives 222 = .ok (.iload_n 2, 1) := by decide +kernel
theorem dX9_gives_223 : decode cX9_gives 223 = .ok (.iadd, 1) := by decide +kernel
theorem dX9_gives_224 : decode cX9_gives 224 = .ok (.putfield 350, 3) := by decide +kernel
theorem dX9_gives_227 : decode cX9_gives 227 = .ok (.iconst 0, 1) := by decide +kernel
theorem dX9_gives_228 : decode cX9_gives 228 = .ok (.istore_n 3, 1) := by decide +kernel
theorem dX9_gives_229 : decode cX9_gives 229 = .ok (.iload_n 3, 1) := by decide +kernel
theorem dX9_gives_230 : decode cX9_gives 230 = .ok (.aload_n 0, 1) := by decide +kernel
theorem dX9_gives_231 : decode cX9_gives 231 = .ok (.getfield 317, 3) := by decide +kernel
theorem dX9_gives_234 : decode cX9_gives 234 = .ok (.if_icmp .ge 24, 3) := by decide +kernel
theorem dX9_gives_237 : decode cX9_gives 237 = .ok (.aload_n 0, 1) := by decide +kernel
theorem dX9_gives_238 : decode cX9_gives 238 = .ok (.iload_n 3, 1) := by decide +kernel
theorem dX9_gives_239 : decode cX9_gives 239 = .ok (.iload_n 1, 1) := by decide +kernel
theorem dX9_gives_240 : decode cX9_gives 240 = .ok (.invokevirtual 381, 3) := by decide +kernel
theorem dX9_gives_243 : decode cX9_gives 243 = .ok (.ifCond .eq 9, 3) := by decide +kernel
theorem dX9_gives_246 : decode cX9_gives 246 = .ok (.aload_n 0, 1) := by decide +kernel
theorem dX9_gives_247 : decode cX9_gives 247 = .ok (.iload_n 3, 1) := by decide +kernel
theorem dX9_gives_248 : decode cX9_gives 248 = .ok (.iload_n 1, 1) := by decide +kernel
theorem dX9_gives_249 : decode cX9_gives 249 = .ok (.invokevirtual 384, 3) := by decide +kernel
theorem dX9_gives_252 : decode cX9_gives 252 = .ok (.iinc 3 1, 3) := by decide +kernel
theorem dX9_gives_255 : decode cX9_gives 255 = .ok (.goto (-26), 3) := by decide +kernel
theorem dX9_gives_258 : decode cX9_gives 258 = .ok (.return_, 1) := by decide +kernel
theorem dX9_gets_0 : decode cX9_gets 0 = .ok (.bipush 12, 2) := by decide +kernel
theorem dX9_gets_2 : decode cX9_gets 2 = .ok (.aload_n 0, 1) := by decide +kernel
theorem dX9_gets_3 : decode cX9_gets 3 = .ok (.getfield 167, 3) := by decide +kernel
theorem dX9_gets_6 : decode cX9_gets 6 = .ok (.iload_n 1, 1) := by decide +kernel
theorem dX9_gets_7 : decode cX9_gets 7 = .ok (.iaload, 1) := by decide +kernel
theorem dX9_gets_8 : decode cX9_gets 8 = .ok (.imul, 1) := by decide +kernel
theorem dX9_gets_9 : decode cX9_gets 9 = .ok (.aload_n 0, 1) := by decide +kernel
theorem dX9_gets_10 : decode cX9_gets 10 = .ok (.getfield 170, 3) := by decide +kernel
theorem dX9_gets_13 : decode cX9_gets 13 = .ok (.iload_n 1, 1) := by decide +kernel
theorem dX9_gets_14 : decode cX9_gets 14 = .ok (.iaload, 1) := by decide +kernel
theorem dX9_gets_15 : decode cX9_gets 15 = .ok (.iadd, 1) := by decide +kernel
theorem dX9_gets_16 : decode cX9_gets 16 = .ok (.istore_n 3, 1) := by decide +kernel
theorem dX9_gets_17 : decode cX9_gets 17 = .ok (.aload_n 0, 1) := by decide +kernel
theorem dX9_gets_18 : decode cX9_gets 18 = .ok (.getfield 197, 3) := by decide +kernel
theorem dX9_gets_21 : decode cX9_gets 21 = .ok (.iload_n 3, 1) := by decide +kernel
theorem dX9_gets_22 : decode cX9_gets 22 = .ok (.baload, 1) := by decide +kernel
theorem dX9_gets_23 : decode cX9_gets 23 = .ok (.ifCond .eq 18, 3) := by decide +kernel
theorem dX9_gets_26 : decode cX9_gets 26 = .ok (.aload_n 0, 1) := by decide +kernel
theorem dX9_gets_27 : decode cX9_gets 27 = .ok (.getfield 104, 3) := by decide +kernel
theorem dX9_gets_30 : decode cX9_gets 30 = .ok (.sipush 300, 3) := by decide +kernel
theorem dX9_gets_33 : decode cX9_gets 33 = .ok (.iload_n 1, 1) := by decide +kernel
theorem dX9_gets_34 : decode cX9_gets 34 = .ok (.imul, 1) := by decide +kernel
theorem dX9_gets_35 : decode cX9_gets 35 = .ok (.iload_n 2, 1) := by decide +kernel
theorem dX9_gets_36 : decode cX9_gets 36 = .ok (.iadd, 1) := by decide +kernel
theorem dX9_gets_37 : decode cX9_gets 37 = .ok (.baload, 1) := by decide +kernel
theorem dX9_gets_38 : decode cX9_gets 38 = .ok (.ifCond .eq 31, 3) := by decide +kernel
theorem dX9_gets_41 : decode cX9_gets 41 = .ok (.aload_n 0, 1) := by decide +kernel
theorem dX9_gets_42 : decode cX9_gets 42 = .ok (.getfield 188, 3) := by decide +kernel
theorem dX9_gets_45 : decode cX9_gets 45 = .ok (.iload_n 1, 1) := by decide +kernel
theorem dX9_gets_46 : decode cX9_gets 46 = .ok (.dup2, 1) := by decide +kernel
theorem dX9_gets_47 : decode cX9_gets 47 = .ok (.iaload, 1) := by decide +kernel
theorem dX9_gets_48 : decode cX9_gets 48 = .ok (.iconst 1, 1) := by decide +kernel
theorem dX9_gets_49 : decode cX9_gets 49 = .ok (.iadd, 1) := by decide +kernel
theorem dX9_gets_50 : decode cX9_gets 50 = .ok (.iastore, 1) := by decide +kernel
theorem dX9_gets_51 : decode cX9_gets 51 = .ok (.aload_n 0, 1) := by decide +kernel
theorem dX9_gets_52 : decode cX9_gets 52 = .ok (.getfield 188, 3) := by decide +kernel
theorem dX9_gets_55 : decode cX9_gets 55 = .ok (.iload_n 1, 1) := by decide +kernel
theorem dX9_gets_56 : decode cX9_gets 56 = .ok (.iaload, 1) := by decide +kernel
theorem dX9_gets_57 : decode cX9_gets 57 = .ok (.bipush 12, 2) := by decide +kernel
theorem dX9_gets_59 : decode cX9_gets 59 = .ok (.if_icmp .ne 9, 3) := by decide +kernel
theorem dX9_gets_62 : decode cX9_gets 62 = .ok (.aload_n 0, 1) := by decide +kernel
theorem dX9_gets_63 : decode cX9_gets 63 = .ok (.iload_n 1, 1) := by decide +kernel
theorem dX9_gets_64 : decode cX9_gets 64 = .ok (.iconst 4, 1) := by decide +kernel
theorem dX9_gets_65 : decode cX9_gets 65 = .ok (.invokevirtual 378, 3) := by decide +kernel
theorem dX9_gets_68 : decode cX9_gets 68 = .ok (.return_, 1) := by decide +kernel
theorem dX9_gets_69 : decode cX9_gets 69 = .ok (.aload_n 0, 1) := by decide +kernel
theorem dX9_gets_70 : decode cX9_gets 70 = .ok (.getfield 113, 3) := by decide +kernel
theorem dX9_gets_73 : decode cX9_gets 73 = .ok (.sipush 300, 3) := by decide +kernel
theorem dX9_gets_76 : decode cX9_gets 76 = .ok (.iload_n 3, 1) := by decide +kernel
theorem dX9_gets_77 : decode cX9_gets 77 = .ok (.imul, 1) := by decide +kernel
theorem dX9_gets_78 : decode cX9_gets 78 = .ok (.iload_n 2, 1) := by decide +kernel
theorem dX9_gets_79 : decode cX9_gets 79 = .ok (.iadd, 1) := by decide +kernel
theorem dX9_gets_80 : decode cX9_gets 80 = .ok (.baload, 1) := by decide +kernel
theorem dX9_gets_81 : decode cX9_gets 81 = .ok (.ifCond .eq 30, 3) := by decide +kernel
theorem dX9_gets_84 : decode cX9_gets 84 = .ok (.aload_n 0, 1) := by decide +kernel
theorem dX9_gets_85 : decode cX9_gets 85 = .ok (.getfield 185, 3) := by decide +kernel
theorem dX9_gets_88 : decode cX9_gets 88 = .ok (.iload_n 1, 1) := by decide +kernel
theorem dX9_gets_89 : decode cX9_gets 89 = .ok (.dup2, 1) := by decide +kernel
theorem dX9_gets_90 : decode cX9_gets 90 = .ok (.iaload, 1) := by decide +kernel
theorem dX9_gets_91 : decode cX9_gets 91 = .ok (.iconst 1, 1) := by decide +kernel
theorem dX9_gets_92 : decode cX9_gets 92 = .ok (.iadd, 1) := by decide +kernel
theorem dX9_gets_93 : decode cX9_gets 93 = .ok (.iastore, 1) := by decide +kernel
theorem dX9_gets_94 : decode cX9_gets 94 = .ok (.aload_n 0, 1) := by decide +kernel
theorem dX9_gets_95 : decode cX9_gets 95 = .ok (.getfield 185, 3) := by decide +kernel
theorem dX9_gets_98 : decode cX9_gets 98 = .ok (.iload_n 1, 1) := by decide +kernel
theorem dX9_gets_99 : decode cX9_gets 99 = .ok (.iaload, 1) := by decide +kernel
theorem dX9_gets_100 : decode cX9_gets 100 = .ok (.iconst 4, 1) := by decide +kernel
theorem dX9_gets_101 : decode cX9_gets 101 = .ok (.if_icmp .ne 9, 3) := by decide +kernel
theorem dX9_gets_104 : decode cX9_gets 104 = .ok (.aload_n 0, 1) := by decide +kernel
theorem dX9_gets_105 : decode cX9_gets 105 = .ok (.iload_n 1, 1) := by decide +kernel
theorem dX9_gets_106 : decode cX9_gets 106 = .ok (.iconst 3, 1) := by decide +kernel
theorem dX9_gets_107 : decode cX9_gets 107 = .ok (.invokevirtual 378, 3) := by decide +kernel
theorem dX9_gets_110 : decode cX9_gets 110 = .ok (.return_, 1) := by decide +kernel
theorem dX9_gets_111 : decode cX9_gets 111 = .ok (.aload_n 0, 1) := by decide +kernel
theorem dX9_gets_112 : decode cX9_gets 112 = .ok (.getfield 188, 3) := by decide +kernel
theorem dX9_gets_115 : decode cX9_gets 115 = .ok (.iload_n 1, 1) := by decide +kernel
theorem dX9_gets_116 : decode cX9_gets 116 = .ok (.iconst 0, 1) := by decide +kernel
theorem dX9_gets_117 : decode cX9_gets 117 = .ok (.iastore, 1) := by decide +kernel
theorem dX9_gets_118 : decode cX9_gets 118 = .ok (.aload_n 0, 1) := by decide +kernel
theorem dX9_gets_119 : decode cX9_gets 119 = .ok (.getfield 170, 3) := by decide +kernel
theorem dX9_gets_122 : decode cX9_gets 122 = .ok (.iload_n 1, 1) := by decide +kernel
theorem dX9_gets_123 : decode cX9_gets 123 = .ok (.dup2, 1) := by decide +kernel
theorem dX9_gets_124 : decode cX9_gets 124 = .ok (.iaload, 1) := by decide +kernel
theorem dX9_gets_125 : decode cX9_gets 125 = .ok (.iconst 1, 1) := by decide +kernel
theorem dX9_gets_126 : decode cX9_gets 126 = .ok (.iadd, 1) := by decide +kernel
theorem dX9_gets_127 : decode cX9_gets 127 = .ok (.iastore, 1) := by decide +kernel
theorem dX9_gets_128 : decode cX9_gets 128 = .ok (.aload_n 0, 1) := by decide +kernel
theorem dX9_gets_129 : decode cX9_gets 129 = .ok (.getfield 170, 3) := by decide +kernel
theorem dX9_gets_132 : decode cX9_gets 132 = .ok (.iload_n 1, 1) := by decide +kernel
theorem dX9_gets_133 : decode cX9_gets 133 = .ok (.iaload, 1) := by decide +kernel
theorem dX9_gets_134 : decode cX9_gets 134 = .ok (.aload_n 0, 1) := by decide +kernel
theorem dX9_gets_135 : decode cX9_gets 135 = .ok (.getfield 98, 3) := by decide +kernel
theorem dX9_gets_138 : decode cX9_gets 138 = .ok (.aload_n 0, 1) := by decide +kernel
theorem dX9_gets_139 : decode cX9_gets 139 = .ok (.getfield 167, 3) := by decide +kernel
theorem dX9_gets_142 : decode cX9_gets 142 = .ok (.iload_n 1, 1) := by decide +kernel
theorem dX9_gets_143 : decode cX9_gets 143 = .ok (.iaload, 1) := by decide +kernel
theorem dX9_gets_144 : decode cX9_gets 144 = .ok (.iaload, 1) := by decide +kernel
theorem dX9_gets_145 : decode cX9_gets 145 = .ok (.if_icmp .ge 4, 3) := by decide +kernel
theorem dX9_gets_148 : decode cX9_gets 148 = .ok (.return_, 1) := by decide +kernel
theorem dX9_gets_149 : decode cX9_gets 149 = .ok (.aload_n 0, 1) := by decide +kernel
theorem dX9_gets_150 : decode cX9_gets 150 = .ok (.getfield 101, 3) := by decide +kernel
theorem dX9_gets_153 : decode cX9_gets 153 = .ok (.aload_n 0, 1) := by decide +kernel
theorem dX9_gets_154 : decode cX9_gets 154 = .ok (.getfield 167, 3) := by decide +kernel
theorem dX9_gets_157 : decode cX9_gets 157 = .ok (.iload_n 1, 1) := by decide +kernel
theorem dX9_gets_158 : decode cX9_gets 158 = .ok (.iaload, 1) := by decide +kernel
theorem dX9_gets_159 : decode cX9_gets 159 = .ok (.iaload, 1) := by decide +kernel
theorem dX9_gets_160 : decode cX9_gets 160 = .ok (.istore 4, 2) := by decide +kernel
theorem dX9_gets_162 : decode cX9_gets 162 = .ok (.aload_n 0, 1) := by decide +kernel
theorem dX9_gets_163 : decode cX9_gets 163 = .ok (.getfield 170, 3) := by decide +kernel
theorem dX9_gets_166 : decode cX9_gets 166 = .ok (.iload_n 1, 1) := by decide +kernel
theorem dX9_gets_167 : decode cX9_gets 167 = .ok (.iconst 0, 1) := by decide +kernel
theorem dX9_gets_168 : decode cX9_gets 168 = .ok (.iastore, 1) := by decide +kernel
theorem dX9_gets_169 : decode cX9_gets 169 = .ok (.aload_n 0, 1) := by decide +kernel
theorem dX9_gets_170 : decode cX9_gets 170 = .ok (.getfield 173, 3) := by decide +kernel
theorem dX9_gets_173 : decode cX9_gets 173 = .ok (.iload_n 1, 1) := by decide +kernel
theorem dX9_gets_174 : decode cX9_gets 174 = .ok (.iload_n 2, 1) := by decide +kernel
theorem dX9_gets_175 : decode cX9_gets 175 = .ok (.iconst 1, 1) := by decide +kernel
theorem dX9_gets_176 : decode cX9_gets 176 = .ok (.iadd, 1) := by decide +kernel
theorem dX9_gets_177 : decode cX9_gets 177 = .ok (.iastore, 1) := by decide +kernel
theorem dX9_gets_178 : decode cX9_gets 178 = .ok (.iload 4, 2) := by decide +kernel
theorem dX9_gets_180 : decode cX9_gets 180 = .ok (.iconst (-1), 1) := by decide +kernel
theorem dX9_gets_181 : decode cX9_gets 181 = .ok (.if_icmp .ne 11, 3) := by decide +kernel
theorem dX9_gets_184 : decode cX9_gets 184 = .ok (.aload_n 0, 1) := by decide +kernel
theorem dX9_gets_185 : decode cX9_gets 185 = .ok (.getfield 158, 3) := by decide +kernel
theorem dX9_gets_188 : decode cX9_gets 188 = .ok (.iload_n 1, 1) := by decide +kernel
theorem dX9_gets_189 : decode cX9_gets 189 = .ok (.iconst 3, 1) := by decide +kernel
theorem dX9_gets_190 : decode cX9_gets 190 = .ok (.iastore, 1) := by decide +kernel
theorem dX9_gets_191 : decode cX9_gets 191 = .ok (.return_, 1) := by decide +kernel
theorem dX9_gets_192 : decode cX9_gets 192 = .ok (.aload_n 0, 1) := by decide +kernel
theorem dX9_gets_193 : decode cX9_gets 193 = .ok (.getfield 194, 3) := by decide +kernel
theorem dX9_gets_196 : decode cX9_gets 196 = .ok (.iload_n 1, 1) := by decide +kernel
theorem dX9_gets_197 : decode cX9_gets 197 = .ok (.dup2, 1) := by decide +kernel
theorem dX9_gets_198 : decode cX9_gets 198 = .ok (.iaload, 1) := by decide +kernel
theorem dX9_gets_199 : decode cX9_gets 199 = .ok (.iconst 1, 1) := by decide +kernel
theorem dX9_gets_200 : decode cX9_gets 200 = .ok (.iadd, 1) := by decide +kernel
theorem dX9_gets_201 : decode cX9_gets 201 = .ok (.iastore, 1) := by decide +kernel
theorem dX9_gets_202 : decode cX9_gets 202 = .ok (.aload_n 0, 1) := by decide +kernel
theorem dX9_gets_203 : decode cX9_gets 203 = .ok (.getfield 194, 3) := by decide +kernel
theorem dX9_gets_206 : decode cX9_gets 206 = .ok (.iload_n 1, 1) := by decide +kernel
theorem dX9_gets_207 : decode cX9_gets 207 = .ok (.iaload, 1) := by decide +kernel
theorem dX9_gets_208 : decode cX9_gets 208 = .ok (.iconst 4, 1) := by decide +kernel
theorem dX9_gets_209 : decode cX9_gets 209 = .ok (.if_icmp .eq 12, 3) := by decide +kernel
theorem dX9_gets_212 : decode cX9_gets 212 = .ok (.iload 4, 2) := by decide +kernel
theorem dX9_gets_214 : decode cX9_gets 214 = .ok (.aload_n 0, 1) := by decide +kernel
theorem dX9_gets_215 : decode cX9_gets 215 = .ok (.getfield 320, 3) := by decide +kernel
theorem dX9_gets_218 : decode cX9_gets 218 = .ok (.if_icmp .lt 12, 3) := by decide +kernel
theorem dX9_gets_221 : decode cX9_gets 221 = .ok (.aload_n 0, 1) := by decide +kernel
theorem dX9_gets_222 : decode cX9_gets 222 = .ok (.iload_n 1, 1) := by decide +kernel
theorem dX9_gets_223 : decode cX9_gets 223 = .ok (.iconst 5, 1) := by decide +kernel
theorem dX9_gets_224 : decode cX9_gets 224 = .ok (.invokevirtual 378, 3) := by decide +kernel
theorem dX9_gets_227 : decode cX9_gets 227 = .ok (.goto 11, 3) := by decide +kernel
theorem dX9_gets_230 : decode cX9_gets 230 = .ok (.aload_n 0, 1) := by decide +kernel
theorem dX9_gets_231 : decode cX9_gets 231 = .ok (.getfield 167, 3) := by decide +kernel
theorem dX9_gets_234 : decode cX9_gets 234 = .ok (.iload_n 1, 1) := by decide +kernel
theorem dX9_gets_235 : decode cX9_gets 235 = .ok (.iload 4, 2) := by decide +kernel
theorem dX9_gets_237 : decode cX9_gets 237 = .ok (.iastore, 1) := by decide +kernel
theorem dX9_gets_238 : decode cX9_gets 238 = .ok (.return_, 1) := by decide +kernel
theorem dX9_writes_0 : decode cX9_writes 0 = .ok (.aload_n 0, 1) := by decide +kernel
theorem dX9_writes_1 : decode cX9_writes 1 = .ok (.getfield 170, 3) := by decide +kernel
theorem dX9_writes_4 : decode cX9_writes 4 = .ok (.iload_n 1, 1) := by decide +kernel
theorem dX9_writes_5 : decode cX9_writes 5 = .ok (.iaload, 1) := by decide +kernel
theorem dX9_writes_6 : decode cX9_writes 6 = .ok (.aload_n 0, 1) := by decide +kernel
theorem dX9_writes_7 : decode cX9_writes 7 = .ok (.getfield 98, 3) := by decide +kernel
theorem dX9_writes_10 : decode cX9_writes 10 = .ok (.aload_n 0, 1) := by decide +kernel
theorem dX9_writes_11 : decode cX9_writes 11 = .ok (.getfield 167, 3) := by decide +kernel
theorem dX9_writes_14 : decode cX9_writes 14 = .ok (.iload_n 1, 1) := by decide +kernel
theorem dX9_writes_15 : decode cX9_writes 15 = .ok (.iaload, 1) := by decide +kernel
theorem dX9_writes_16 : decode cX9_writes 16 = .ok (.iaload, 1) := by decide +kernel
theorem dX9_writes_17 : decode cX9_writes 17 = .ok (.if_icmp .ge 14, 3) := by decide +kernel
theorem dX9_writes_20 : decode cX9_writes 20 = .ok (.aload_n 0, 1) := by decide +kernel
theorem dX9_writes_21 : decode cX9_writes 21 = .ok (.getfield 170, 3) := by decide +kernel
theorem dX9_writes_24 : decode cX9_writes 24 = .ok (.iload_n 1, 1) := by decide +kernel
theorem dX9_writes_25 : decode cX9_writes 25 = .ok (.dup2, 1) := by decide +kernel
theorem dX9_writes_26 : decode cX9_writes 26 = .ok (.iaload, 1) := by decide +kernel
theorem dX9_writes_27 : decode cX9_writes 27 = .ok (.iconst 1, 1) := by decide +kernel
theorem dX9_writes_28 : decode cX9_writes 28 = .ok (.iadd, 1) := by decide +kernel
theorem dX9_writes_29 : decode cX9_writes 29 = .ok (.iastore, 1) := by decide +kernel
theorem dX9_writes_30 : decode cX9_writes 30 = .ok (.return_, 1) := by decide +kernel
theorem dX9_writes_31 : decode cX9_writes 31 = .ok (.aload_n 0, 1) := by decide +kernel
theorem dX9_writes_32 : decode cX9_writes 32 = .ok (.getfield 176, 3) := by decide +kernel
theorem dX9_writes_35 : decode cX9_writes 35 = .ok (.iload_n 1, 1) := by decide +kernel
theorem dX9_writes_36 : decode cX9_writes 36 = .ok (.aload_n 0, 1) := by decide +kernel
theorem dX9_writes_37 : decode cX9_writes 37 = .ok (.getfield 167, 3) := by decide +kernel
theorem dX9_writes_40 : decode cX9_writes 40 = .ok (.iload_n 1, 1) := by decide +kernel
theorem dX9_writes_41 : decode cX9_writes 41 = .ok (.iaload, 1) := by decide +kernel
theorem dX9_writes_42 : decode cX9_writes 42 = .ok (.iastore, 1) := by decide +kernel
theorem dX9_writes_43 : decode cX9_writes 43 = .ok (.aload_n 0, 1) := by decide +kernel
theorem dX9_writes_44 : decode cX9_writes 44 = .ok (.getfield 158, 3) := by decide +kernel
theorem dX9_writes_47 : decode cX9_writes 47 = .ok (.iload_n 1, 1) := by decide +kernel
theorem dX9_writes_48 : decode cX9_writes 48 = .ok (.iconst 4, 1) := by decide +kernel
theorem dX9_writes_49 : decode cX9_writes 49 = .ok (.iastore, 1) := by decide +kernel
theorem dX9_writes_50 : decode cX9_writes 50 = .ok (.aload_n 0, 1) := by decide +kernel
theorem dX9_writes_51 : decode cX9_writes 51 = .ok (.getfield 194, 3) := by decide +kernel
theorem dX9_writes_54 : decode cX9_writes 54 = .ok (.iload_n 1, 1) := by decide +kernel
theorem dX9_writes_55 : decode cX9_writes 55 = .ok (.iconst 0, 1) := by decide +kernel
theorem dX9_writes_56 : decode cX9_writes 56 = .ok (.iastore, 1) := by decide +kernel
theorem dX9_writes_57 : decode cX9_writes 57 = .ok (.aload_n 0, 1) := by decide +kernel
theorem dX9_writes_58 : decode cX9_writes 58 = .ok (.getfield 167, 3) := by decide +kernel
theorem dX9_writes_61 : decode cX9_writes 61 = .ok (.iload_n 1, 1) := by decide +kernel
theorem dX9_writes_62 : decode cX9_writes 62 = .ok (.iconst (-1), 1) := by decide +kernel
theorem dX9_writes_63 : decode cX9_writes 63 = .ok (.iastore, 1) := by decide +kernel
theorem dX9_writes_64 : decode cX9_writes 64 = .ok (.aload_n 0, 1) := by decide +kernel
theorem dX9_writes_65 : decode cX9_writes 65 = .ok (.getfield 170, 3) := by decide +kernel
theorem dX9_writes_68 : decode cX9_writes 68 = .ok (.iload_n 1, 1) := by decide +kernel
theorem dX9_writes_69 : decode cX9_writes 69 = .ok (.iconst (-1), 1) := by decide +kernel
theorem dX9_writes_70 : decode cX9_writes 70 = .ok (.iastore, 1) := by decide +kernel
theorem dX9_writes_71 : decode cX9_writes 71 = .ok (.return_, 1) := by decide +kernel
theorem dX9_keeps_0 : decode cX9_keeps 0 = .ok (.sipush 300, 3) := by decide +kernel
theorem dX9_keeps_3 : decode cX9_keeps 3 = .ok (.iload_n 1, 1) := by decide +kernel
theorem dX9_keeps_4 : decode cX9_keeps 4 = .ok (.imul, 1) := by decide +kernel
theorem dX9_keeps_5 : decode cX9_keeps 5 = .ok (.iload_n 2, 1) := by decide +kernel
theorem dX9_keeps_6 : decode cX9_keeps 6 = .ok (.iadd, 1) := by decide +kernel
theorem dX9_keeps_7 : decode cX9_keeps 7 = .ok (.istore_n 3, 1) := by decide +kernel
theorem dX9_keeps_8 : decode cX9_keeps 8 = .ok (.aload_n 0, 1) := by decide +kernel
theorem dX9_keeps_9 : decode cX9_keeps 9 = .ok (.getfield 122, 3) := by decide +kernel
theorem dX9_keeps_12 : decode cX9_keeps 12 = .ok (.iload_n 3, 1) := by decide +kernel
theorem dX9_keeps_13 : decode cX9_keeps 13 = .ok (.aload_n 0, 1) := by decide +kernel
theorem dX9_keeps_14 : decode cX9_keeps 14 = .ok (.getfield 158, 3) := by decide +kernel
theorem dX9_keeps_17 : decode cX9_keeps 17 = .ok (.iload_n 1, 1) := by decide +kernel
theorem dX9_keeps_18 : decode cX9_keeps 18 = .ok (.iaload, 1) := by decide +kernel
theorem dX9_keeps_19 : decode cX9_keeps 19 = .ok (.iastore, 1) := by decide +kernel
theorem dX9_keeps_20 : decode cX9_keeps 20 = .ok (.aload_n 0, 1) := by decide +kernel
theorem dX9_keeps_21 : decode cX9_keeps 21 = .ok (.getfield 125, 3) := by decide +kernel
theorem dX9_keeps_24 : decode cX9_keeps 24 = .ok (.iload_n 3, 1) := by decide +kernel
theorem dX9_keeps_25 : decode cX9_keeps 25 = .ok (.aload_n 0, 1) := by decide +kernel
theorem dX9_keeps_26 : decode cX9_keeps 26 = .ok (.getfield 167, 3) := by decide +kernel
theorem dX9_keeps_29 : decode cX9_keeps 29 = .ok (.iload_n 1, 1) := by decide +kernel
theorem dX9_keeps_30 : decode cX9_keeps 30 = .ok (.iaload, 1) := by decide +kernel
theorem dX9_keeps_31 : decode cX9_keeps 31 = .ok (.iastore, 1) := by decide +kernel
theorem dX9_keeps_32 : decode cX9_keeps 32 = .ok (.aload_n 0, 1) := by decide +kernel
theorem dX9_keeps_33 : decode cX9_keeps 33 = .ok (.getfield 128, 3) := by decide +kernel
theorem dX9_keeps_36 : decode cX9_keeps 36 = .ok (.iload_n 3, 1) := by decide +kernel
theorem dX9_keeps_37 : decode cX9_keeps 37 = .ok (.aload_n 0, 1) := by decide +kernel
theorem dX9_keeps_38 : decode cX9_keeps 38 = .ok (.getfield 170, 3) := by decide +kernel
theorem dX9_keeps_41 : decode cX9_keeps 41 = .ok (.iload_n 1, 1) := by decide +kernel
theorem dX9_keeps_42 : decode cX9_keeps 42 = .ok (.iaload, 1) := by decide +kernel
theorem dX9_keeps_43 : decode cX9_keeps 43 = .ok (.iastore, 1) := by decide +kernel
theorem dX9_keeps_44 : decode cX9_keeps 44 = .ok (.aload_n 0, 1) := by decide +kernel
theorem dX9_keeps_45 : decode cX9_keeps 45 = .ok (.getfield 131, 3) := by decide +kernel
theorem dX9_keeps_48 : decode cX9_keeps 48 = .ok (.iload_n 3, 1) := by decide +kernel
theorem dX9_keeps_49 : decode cX9_keeps 49 = .ok (.aload_n 0, 1) := by decide +kernel
theorem dX9_keeps_50 : decode cX9_keeps 50 = .ok (.getfield 176, 3) := by decide +kernel
theorem dX9_keeps_53 : decode cX9_keeps 53 = .ok (.iload_n 1, 1) := by decide +kernel
theorem dX9_keeps_54 : decode cX9_keeps 54 = .ok (.iaload, 1) := by decide +kernel
theorem dX9_keeps_55 : decode cX9_keeps 55 = .ok (.iastore, 1) := by decide +kernel
theorem dX9_keeps_56 : decode cX9_keeps 56 = .ok (.aload_n 0, 1) := by decide +kernel
theorem dX9_keeps_57 : decode cX9_keeps 57 = .ok (.getfield 134, 3) := by decide +kernel
theorem dX9_keeps_60 : decode cX9_keeps 60 = .ok (.iload_n 3, 1) := by decide +kernel
theorem dX9_keeps_61 : decode cX9_keeps 61 = .ok (.aload_n 0, 1) := by decide +kernel
theorem dX9_keeps_62 : decode cX9_keeps 62 = .ok (.getfield 179, 3) := by decide +kernel
theorem dX9_keeps_65 : decode cX9_keeps 65 = .ok (.iload_n 1, 1) := by decide +kernel
theorem dX9_keeps_66 : decode cX9_keeps 66 = .ok (.iaload, 1) := by decide +kernel
theorem dX9_keeps_67 : decode cX9_keeps 67 = .ok (.iastore, 1) := by decide +kernel
theorem dX9_keeps_68 : decode cX9_keeps 68 = .ok (.aload_n 0, 1) := by decide +kernel
theorem dX9_keeps_69 : decode cX9_keeps 69 = .ok (.getfield 137, 3) := by decide +kernel
theorem dX9_keeps_72 : decode cX9_keeps 72 = .ok (.iload_n 3, 1) := by decide +kernel
theorem dX9_keeps_73 : decode cX9_keeps 73 = .ok (.aload_n 0, 1) := by decide +kernel
theorem dX9_keeps_74 : decode cX9_keeps 74 = .ok (.getfield 182, 3) := by decide +kernel
theorem dX9_keeps_77 : decode cX9_keeps 77 = .ok (.iload_n 1, 1) := by decide +kernel
theorem dX9_keeps_78 : decode cX9_keeps 78 = .ok (.iaload, 1) := by decide +kernel
theorem dX9_keeps_79 : decode cX9_keeps 79 = .ok (.iastore, 1) := by decide +kernel
theorem dX9_keeps_80 : decode cX9_keeps 80 = .ok (.aload_n 0, 1) := by decide +kernel
theorem dX9_keeps_81 : decode cX9_keeps 81 = .ok (.getfield 140, 3) := by decide +kernel
theorem dX9_keeps_84 : decode cX9_keeps 84 = .ok (.iload_n 3, 1) := by decide +kernel
theorem dX9_keeps_85 : decode cX9_keeps 85 = .ok (.aload_n 0, 1) := by decide +kernel
theorem dX9_keeps_86 : decode cX9_keeps 86 = .ok (.getfield 185, 3) := by decide +kernel
theorem dX9_keeps_89 : decode cX9_keeps 89 = .ok (.iload_n 1, 1) := by decide +kernel
theorem dX9_keeps_90 : decode cX9_keeps 90 = .ok (.iaload, 1) := by decide +kernel
theorem dX9_keeps_91 : decode cX9_keeps 91 = .ok (.iastore, 1) := by decide +kernel
theorem dX9_keeps_92 : decode cX9_keeps 92 = .ok (.aload_n 0, 1) := by decide +kernel
theorem dX9_keeps_93 : decode cX9_keeps 93 = .ok (.getfield 143, 3) := by decide +kernel
theorem dX9_keeps_96 : decode cX9_keeps 96 = .ok (.iload_n 3, 1) := by decide +kernel
theorem dX9_keeps_97 : decode cX9_keeps 97 = .ok (.aload_n 0, 1) := by decide +kernel
theorem dX9_keeps_98 : decode cX9_keeps 98 = .ok (.getfield 188, 3) := by decide +kernel
theorem dX9_keeps_101 : decode cX9_keeps 101 = .ok (.iload_n 1, 1) := by decide +kernel
theorem dX9_keeps_102 : decode cX9_keeps 102 = .ok (.iaload, 1) := by decide +kernel
theorem dX9_keeps_103 : decode cX9_keeps 103 = .ok (.iastore, 1) := by decide +kernel
theorem dX9_keeps_104 : decode cX9_keeps 104 = .ok (.aload_n 0, 1) := by decide +kernel
theorem dX9_keeps_105 : decode cX9_keeps 105 = .ok (.getfield 146, 3) := by decide +kernel
theorem dX9_keeps_108 : decode cX9_keeps 108 = .ok (.iload_n 3, 1) := by decide +kernel
theorem dX9_keeps_109 : decode cX9_keeps 109 = .ok (.aload_n 0, 1) := by decide +kernel
theorem dX9_keeps_110 : decode cX9_keeps 110 = .ok (.getfield 191, 3) := by decide +kernel
theorem dX9_keeps_113 : decode cX9_keeps 113 = .ok (.iload_n 1, 1) := by decide +kernel
theorem dX9_keeps_114 : decode cX9_keeps 114 = .ok (.iaload, 1) := by decide +kernel
theorem dX9_keeps_115 : decode cX9_keeps 115 = .ok (.iastore, 1) := by decide +kernel
theorem dX9_keeps_116 : decode cX9_keeps 116 = .ok (.aload_n 0, 1) := by decide +kernel
theorem dX9_keeps_117 : decode cX9_keeps 117 = .ok (.getfield 149, 3) := by decide +kernel
theorem dX9_keeps_120 : decode cX9_keeps 120 = .ok (.iload_n 3, 1) := by decide +kernel
theorem dX9_keeps_121 : decode cX9_keeps 121 = .ok (.aload_n 0, 1) := by decide +kernel
theorem dX9_keeps_122 : decode cX9_keeps 122 = .ok (.getfield 194, 3) := by decide +kernel
theorem dX9_keeps_125 : decode cX9_keeps 125 = .ok (.iload_n 1, 1) := by decide +kernel
theorem dX9_keeps_126 : decode cX9_keeps 126 = .ok (.iaload, 1) := by decide +kernel
theorem dX9_keeps_127 : decode cX9_keeps 127 = .ok (.iastore, 1) := by decide +kernel
theorem dX9_keeps_128 : decode cX9_keeps 128 = .ok (.return_, 1) := by decide +kernel
theorem dX9_answer_0 : decode cX9_answer 0 = .ok (.iload_n 1, 1) := by decide +kernel
theorem dX9_answer_1 : decode cX9_answer 1 = .ok (.ifCond .lt 23, 3) := by decide +kernel
theorem dX9_answer_4 : decode cX9_answer 4 = .ok (.iload_n 1, 1) := by decide +kernel
theorem dX9_answer_5 : decode cX9_answer 5 = .ok (.iconst 1, 1) := by decide +kernel
theorem dX9_answer_6 : decode cX9_answer 6 = .ok (.if_icmp .gt 18, 3) := by decide +kernel
theorem dX9_answer_9 : decode cX9_answer 9 = .ok (.aload_n 0, 1) := by decide +kernel
theorem dX9_answer_10 : decode cX9_answer 10 = .ok (.iload_n 2, 1) := by decide +kernel
theorem dX9_answer_11 : decode cX9_answer 11 = .ok (.invokevirtual 329, 3) := by decide +kernel
theorem dX9_answer_14 : decode cX9_answer 14 = .ok (.ifCond .eq 10, 3) := by decide +kernel
theorem dX9_answer_17 : decode cX9_answer 17 = .ok (.iload_n 3, 1) := by decide +kernel
theorem dX9_answer_18 : decode cX9_answer 18 = .ok (.invokestatic 323, 3) := by decide +kernel
theorem dX9_answer_21 : decode cX9_answer 21 = .ok (.ifCond .ne 5, 3) := by decide +kernel
theorem dX9_answer_24 : decode cX9_answer 24 = .ok (.iconst (-1), 1) := by decide +kernel
theorem dX9_answer_25 : decode cX9_answer 25 = .ok (.ireturn, 1) := by decide +kernel
theorem dX9_answer_26 : decode cX9_answer 26 = .ok (.aload_n 0, 1) := by decide +kernel
theorem dX9_answer_27 : decode cX9_answer 27 = .ok (.invokevirtual 387, 3) := by decide +kernel
theorem dX9_answer_30 : decode cX9_answer 30 = .ok (.sipush 300, 3) := by decide +kernel
theorem dX9_answer_33 : decode cX9_answer 33 = .ok (.iload_n 2, 1) := by decide +kernel
theorem dX9_answer_34 : decode cX9_answer 34 = .ok (.imul, 1) := by decide +kernel
theorem dX9_answer_35 : decode cX9_answer 35 = .ok (.iload_n 3, 1) := by decide +kernel
theorem dX9_answer_36 : decode cX9_answer 36 = .ok (.iadd, 1) := by decide +kernel
theorem dX9_answer_37 : decode cX9_answer 37 = .ok (.istore 4, 2) := by decide +kernel
theorem dX9_answer_39 : decode cX9_answer 39 = .ok (.aload_n 0, 1) := by decide +kernel
theorem dX9_answer_40 : decode cX9_answer 40 = .ok (.iload_n 2, 1) := by decide +kernel
theorem dX9_answer_41 : decode cX9_answer 41 = .ok (.aload_n 0, 1) := by decide +kernel
theorem dX9_answer_42 : decode cX9_answer 42 = .ok (.getfield 137, 3) := by decide +kernel
theorem dX9_answer_45 : decode cX9_answer 45 = .ok (.iload 4, 2) := by decide +kernel
theorem dX9_answer_47 : decode cX9_answer 47 = .ok (.iaload, 1) := by decide +kernel
theorem dX9_answer_48 : decode cX9_answer 48 = .ok (.aload_n 0, 1) := by decide +kernel
theorem dX9_answer_49 : decode cX9_answer 49 = .ok (.getfield 140, 3) := by decide +kernel
theorem dX9_answer_52 : decode cX9_answer 52 = .ok (.iload 4, 2) := by decide +kernel
theorem dX9_answer_54 : decode cX9_answer 54 = .ok (.iaload, 1) := by decide +kernel
theorem dX9_answer_55 : decode cX9_answer 55 = .ok (.aload_n 0, 1) := by decide +kernel
theorem dX9_answer_56 : decode cX9_answer 56 = .ok (.getfield 146, 3) := by decide +kernel
theorem dX9_answer_59 : decode cX9_answer 59 = .ok (.iload 4, 2) := by decide +kernel
theorem dX9_answer_61 : decode cX9_answer 61 = .ok (.iaload, 1) := by decide +kernel
theorem dX9_answer_62 : decode cX9_answer 62 = .ok (.iload_n 3, 1) := by decide +kernel
theorem dX9_answer_63 : decode cX9_answer 63 = .ok (.invokevirtual 371, 3) := by decide +kernel
theorem dX9_answer_66 : decode cX9_answer 66 = .ok (.aload_n 0, 1) := by decide +kernel
theorem dX9_answer_67 : decode cX9_answer 67 = .ok (.iload_n 1, 1) := by decide +kernel
theorem dX9_answer_68 : decode cX9_answer 68 = .ok (.invokevirtual 375, 3) := by decide +kernel
theorem dX9_answer_71 : decode cX9_answer 71 = .ok (.ireturn, 1) := by decide +kernel
theorem dX9_state_0 : decode cX9_state 0 = .ok (.aload_n 0, 1) := by decide +kernel
theorem dX9_state_1 : decode cX9_state 1 = .ok (.iload_n 1, 1) := by decide +kernel
theorem dX9_state_2 : decode cX9_state 2 = .ok (.invokevirtual 329, 3) := by decide +kernel
theorem dX9_state_5 : decode cX9_state 5 = .ok (.ifCond .eq 20, 3) := by decide +kernel
theorem dX9_state_8 : decode cX9_state 8 = .ok (.iload_n 2, 1) := by decide +kernel
theorem dX9_state_9 : decode cX9_state 9 = .ok (.invokestatic 323, 3) := by decide +kernel
theorem dX9_state_12 : decode cX9_state 12 = .ok (.ifCond .eq 13, 3) := by decide +kernel
theorem dX9_state_15 : decode cX9_state 15 = .ok (.iload_n 3, 1) := by decide +kernel
theorem dX9_state_16 : decode cX9_state 16 = .ok (.ifCond .lt 9, 3) := by decide +kernel
theorem dX9_state_19 : decode cX9_state 19 = .ok (.iload_n 3, 1) := by decide +kernel
theorem dX9_state_20 : decode cX9_state 20 = .ok (.bipush 9, 2) := by decide +kernel
theorem dX9_state_22 : decode cX9_state 22 = .ok (.if_icmp .le 7, 3) := by decide +kernel
theorem dX9_state_25 : decode cX9_state 25 = .ok (.ldc_w 390, 3) := by decide +kernel
theorem dX9_state_28 : decode cX9_state 28 = .ok (.ireturn, 1) := by decide +kernel
theorem dX9_state_29 : decode cX9_state 29 = .ok (.aload_n 0, 1) := by decide +kernel
theorem dX9_state_30 : decode cX9_state 30 = .ok (.invokevirtual 387, 3) := by decide +kernel
theorem dX9_state_33 : decode cX9_state 33 = .ok (.sipush 300, 3) := by decide +kernel
theorem dX9_state_36 : decode cX9_state 36 = .ok (.iload_n 1, 1) := by decide +kernel
theorem dX9_state_37 : decode cX9_state 37 = .ok (.imul, 1) := by decide +kernel
theorem dX9_state_38 : decode cX9_state 38 = .ok (.iload_n 2, 1) := by decide +kernel
theorem dX9_state_39 : decode cX9_state 39 = .ok (.iadd, 1) := by decide +kernel
theorem dX9_state_40 : decode cX9_state 40 = .ok (.istore 4, 2) := by decide +kernel
theorem dX9_state_42 : decode cX9_state 42 = .ok (.iload_n 3, 1) := by decide +kernel
theorem dX9_state_43 : decode cX9_state 43 = .ok (.tableswitch 121 0 8 #[49, 57, 65, 73, 81, 89, 97, 105, 113], 49) := by decide +kernel
theorem dX9_state_92 : decode cX9_state 92 = .ok (.aload_n 0, 1) := by decide +kernel
theorem dX9_state_93 : decode cX9_state 93 = .ok (.getfield 122, 3) := by decide +kernel
theorem dX9_state_96 : decode cX9_state 96 = .ok (.iload 4, 2) := by decide +kernel
theorem dX9_state_98 : decode cX9_state 98 = .ok (.iaload, 1) := by decide +kernel
theorem dX9_state_99 : decode cX9_state 99 = .ok (.ireturn, 1) := by decide +kernel
theorem dX9_state_100 : decode cX9_state 100 = .ok (.aload_n 0, 1) := by decide +kernel
theorem dX9_state_101 : decode cX9_state 101 = .ok (.getfield 125, 3) := by decide +kernel
theorem dX9_state_104 : decode cX9_state 104 = .ok (.iload 4, 2) := by decide +kernel
theorem dX9_state_106 : decode cX9_state 106 = .ok (.iaload, 1) := by decide +kernel
theorem dX9_state_107 : decode cX9_state 107 = .ok (.ireturn, 1) := by decide +kernel
theorem dX9_state_108 : decode cX9_state 108 = .ok (.aload_n 0, 1) := by decide +kernel
theorem dX9_state_109 : decode cX9_state 109 = .ok (.getfield 128, 3) := by decide +kernel
theorem dX9_state_112 : decode cX9_state 112 = .ok (.iload 4, 2) := by decide +kernel
theorem dX9_state_114 : decode cX9_state 114 = .ok (.iaload, 1) := by decide +kernel
theorem dX9_state_115 : decode cX9_state 115 = .ok (.ireturn, 1) := by decide +kernel
theorem dX9_state_116 : decode cX9_state 116 = .ok (.aload_n 0, 1) := by decide +kernel
theorem dX9_state_117 : decode cX9_state 117 = .ok (.getfield 131, 3) := by decide +kernel
theorem dX9_state_120 : decode cX9_state 120 = .ok (.iload 4, 2) := by decide +kernel
theorem dX9_state_122 : decode cX9_state 122 = .ok (.iaload, 1) := by decide +kernel
theorem dX9_state_123 : decode cX9_state 123 = .ok (.ireturn, 1) := by decide +kernel
theorem dX9_state_124 : decode cX9_state 124 = .ok (.aload_n 0, 1) := by decide +kernel
theorem dX9_state_125 : decode cX9_state 125 = .ok (.getfield 134, 3) := by decide +kernel
theorem dX9_state_128 : decode cX9_state 128 = .ok (.iload 4, 2) := by decide +kernel
theorem dX9_state_130 : decode cX9_state 130 = .ok (.iaload, 1) := by decide +kernel
theorem dX9_state_131 : decode cX9_state 131 = .ok (.ireturn, 1) := by decide +kernel
theorem dX9_state_132 : decode cX9_state 132 = .ok (.aload_n 0, 1) := by decide +kernel
theorem dX9_state_133 : decode cX9_state 133 = .ok (.getfield 137, 3) := by decide +kernel
theorem dX9_state_136 : decode cX9_state 136 = .ok (.iload 4, 2) := by decide +kernel
theorem dX9_state_138 : decode cX9_state 138 = .ok (.iaload, 1) := by decide +kernel
theorem dX9_state_139 : decode cX9_state 139 = .ok (.ireturn, 1) := by decide +kernel
theorem dX9_state_140 : decode cX9_state 140 = .ok (.aload_n 0, 1) := by decide +kernel
theorem dX9_state_141 : decode cX9_state 141 = .ok (.getfield 140, 3) := by decide +kernel
theorem dX9_state_144 : decode cX9_state 144 = .ok (.iload 4, 2) := by decide +kernel
theorem dX9_state_146 : decode cX9_state 146 = .ok (.iaload, 1) := by decide +kernel
theorem dX9_state_147 : decode cX9_state 147 = .ok (.ireturn, 1) := by decide +kernel
theorem dX9_state_148 : decode cX9_state 148 = .ok (.aload_n 0, 1) := by decide +kernel
theorem dX9_state_149 : decode cX9_state 149 = .ok (.getfield 143, 3) := by decide +kernel
theorem dX9_state_152 : decode cX9_state 152 = .ok (.iload 4, 2) := by decide +kernel
theorem dX9_state_154 : decode cX9_state 154 = .ok (.iaload, 1) := by decide +kernel
theorem dX9_state_155 : decode cX9_state 155 = .ok (.ireturn, 1) := by decide +kernel
theorem dX9_state_156 : decode cX9_state 156 = .ok (.aload_n 0, 1) := by decide +kernel
theorem dX9_state_157 : decode cX9_state 157 = .ok (.getfield 146, 3) := by decide +kernel
theorem dX9_state_160 : decode cX9_state 160 = .ok (.iload 4, 2) := by decide +kernel
theorem dX9_state_162 : decode cX9_state 162 = .ok (.iaload, 1) := by decide +kernel
theorem dX9_state_163 : decode cX9_state 163 = .ok (.ireturn, 1) := by decide +kernel
theorem dX9_state_164 : decode cX9_state 164 = .ok (.aload_n 0, 1) := by decide +kernel
theorem dX9_state_165 : decode cX9_state 165 = .ok (.getfield 149, 3) := by decide +kernel
theorem dX9_state_168 : decode cX9_state 168 = .ok (.iload 4, 2) := by decide +kernel
theorem dX9_state_170 : decode cX9_state 170 = .ok (.iaload, 1) := by decide +kernel
theorem dX9_state_171 : decode cX9_state 171 = .ok (.ireturn, 1) := by decide +kernel
theorem dX9_sends_0 : decode cX9_sends 0 = .ok (.iload_n 1, 1) := by decide +kernel
theorem dX9_sends_1 : decode cX9_sends 1 = .ok (.invokestatic 323, 3) := by decide +kernel
theorem dX9_sends_4 : decode cX9_sends 4 = .ok (.ifCond .ne 5, 3) := by decide +kernel
theorem dX9_sends_7 : decode cX9_sends 7 = .ok (.iconst (-1), 1) := by decide +kernel
theorem dX9_sends_8 : decode cX9_sends 8 = .ok (.ireturn, 1) := by decide +kernel
theorem dX9_sends_9 : decode cX9_sends 9 = .ok (.aload_n 0, 1) := by decide +kernel
theorem dX9_sends_10 : decode cX9_sends 10 = .ok (.invokevirtual 387, 3) := by decide +kernel
theorem dX9_sends_13 : decode cX9_sends 13 = .ok (.aload_n 0, 1) := by decide +kernel
theorem dX9_sends_14 : decode cX9_sends 14 = .ok (.getfield 152, 3) := by decide +kernel
theorem dX9_sends_17 : decode cX9_sends 17 = .ok (.iload_n 1, 1) := by decide +kernel
theorem dX9_sends_18 : decode cX9_sends 18 = .ok (.iaload, 1) := by decide +kernel
theorem dX9_sends_19 : decode cX9_sends 19 = .ok (.ireturn, 1) := by decide +kernel
theorem dX9_sent_0 : decode cX9_sent 0 = .ok (.aload_n 0, 1) := by decide +kernel
theorem dX9_sent_1 : decode cX9_sent 1 = .ok (.iload_n 1, 1) := by decide +kernel
theorem dX9_sent_2 : decode cX9_sent 2 = .ok (.invokevirtual 336, 3) := by decide +kernel
theorem dX9_sent_5 : decode cX9_sent 5 = .ok (.ifCond .eq 17, 3) := by decide +kernel
theorem dX9_sent_8 : decode cX9_sent 8 = .ok (.iload_n 2, 1) := by decide +kernel
theorem dX9_sent_9 : decode cX9_sent 9 = .ok (.ifCond .lt 13, 3) := by decide +kernel
theorem dX9_sent_12 : decode cX9_sent 12 = .ok (.iload_n 2, 1) := by decide +kernel
theorem dX9_sent_13 : decode cX9_sent 13 = .ok (.aload_n 0, 1) := by decide +kernel
theorem dX9_sent_14 : decode cX9_sent 14 = .ok (.getfield 98, 3) := by decide +kernel
theorem dX9_sent_17 : decode cX9_sent 17 = .ok (.iload_n 1, 1) := by decide +kernel
theorem dX9_sent_18 : decode cX9_sent 18 = .ok (.iaload, 1) := by decide +kernel
theorem dX9_sent_19 : decode cX9_sent 19 = .ok (.if_icmp .lt 5, 3) := by decide +kernel
theorem dX9_sent_22 : decode cX9_sent 22 = .ok (.iconst (-1), 1) := by decide +kernel
theorem dX9_sent_23 : decode cX9_sent 23 = .ok (.ireturn, 1) := by decide +kernel
theorem dX9_sent_24 : decode cX9_sent 24 = .ok (.aload_n 0, 1) := by decide +kernel
theorem dX9_sent_25 : decode cX9_sent 25 = .ok (.invokevirtual 387, 3) := by decide +kernel
theorem dX9_sent_28 : decode cX9_sent 28 = .ok (.aload_n 0, 1) := by decide +kernel
theorem dX9_sent_29 : decode cX9_sent 29 = .ok (.getfield 155, 3) := by decide +kernel
theorem dX9_sent_32 : decode cX9_sent 32 = .ok (.bipush 12, 2) := by decide +kernel
theorem dX9_sent_34 : decode cX9_sent 34 = .ok (.iload_n 1, 1) := by decide +kernel
theorem dX9_sent_35 : decode cX9_sent 35 = .ok (.imul, 1) := by decide +kernel
theorem dX9_sent_36 : decode cX9_sent 36 = .ok (.iload_n 2, 1) := by decide +kernel
theorem dX9_sent_37 : decode cX9_sent 37 = .ok (.iadd, 1) := by decide +kernel
theorem dX9_sent_38 : decode cX9_sent 38 = .ok (.iaload, 1) := by decide +kernel
theorem dX9_sent_39 : decode cX9_sent 39 = .ok (.ireturn, 1) := by decide +kernel
theorem dX9_isDone_0 : decode cX9_isDone 0 = .ok (.iconst 0, 1) := by decide +kernel
theorem dX9_isDone_1 : decode cX9_isDone 1 = .ok (.istore_n 2, 1) := by decide +kernel
theorem dX9_isDone_2 : decode cX9_isDone 2 = .ok (.iload_n 2, 1) := by decide +kernel
theorem dX9_isDone_3 : decode cX9_isDone 3 = .ok (.aload_n 0, 1) := by decide +kernel
theorem dX9_isDone_4 : decode cX9_isDone 4 = .ok (.getfield 317, 3) := by decide +kernel
theorem dX9_isDone_7 : decode cX9_isDone 7 = .ok (.if_icmp .ge 27, 3) := by decide +kernel
theorem dX9_isDone_10 : decode cX9_isDone 10 = .ok (.aload_n 0, 1) := by decide +kernel
theorem dX9_isDone_11 : decode cX9_isDone 11 = .ok (.getfield 122, 3) := by decide +kernel
theorem dX9_isDone_14 : decode cX9_isDone 14 = .ok (.sipush 300, 3) := by decide +kernel
theorem dX9_isDone_17 : decode cX9_isDone 17 = .ok (.iload_n 2, 1) := by decide +kernel
theorem dX9_isDone_18 : decode cX9_isDone 18 = .ok (.imul, 1) := by decide +kernel
theorem dX9_isDone_19 : decode cX9_isDone 19 = .ok (.iload_n 1, 1) := by decide +kernel
theorem dX9_isDone_20 : decode cX9_isDone 20 = .ok (.iadd, 1) := by decide +kernel
theorem dX9_isDone_21 : decode cX9_isDone 21 = .ok (.iaload, 1) := by decide +kernel
theorem dX9_isDone_22 : decode cX9_isDone 22 = .ok (.iconst 4, 1) := by decide +kernel
theorem dX9_isDone_23 : decode cX9_isDone 23 = .ok (.if_icmp .ge 5, 3) := by decide +kernel
theorem dX9_isDone_26 : decode cX9_isDone 26 = .ok (.iconst 0, 1) := by decide +kernel
theorem dX9_isDone_27 : decode cX9_isDone 27 = .ok (.ireturn, 1) := by decide +kernel
theorem dX9_isDone_28 : decode cX9_isDone 28 = .ok (.iinc 2 1, 3) := by decide +kernel
theorem dX9_isDone_31 : decode cX9_isDone 31 = .ok (.goto (-29), 3) := by decide +kernel
theorem dX9_isDone_34 : decode cX9_isDone 34 = .ok (.iconst 1, 1) := by decide +kernel
theorem dX9_isDone_35 : decode cX9_isDone 35 = .ok (.ireturn, 1) := by decide +kernel
theorem dX9_ends_0 : decode cX9_ends 0 = .ok (.aload_n 0, 1) := by decide +kernel
theorem dX9_ends_1 : decode cX9_ends 1 = .ok (.invokevirtual 387, 3) := by decide +kernel
theorem dX9_ends_4 : decode cX9_ends 4 = .ok (.aload_n 0, 1) := by decide +kernel
theorem dX9_ends_5 : decode cX9_ends 5 = .ok (.getfield 317, 3) := by decide +kernel
theorem dX9_ends_8 : decode cX9_ends 8 = .ok (.ifCond .eq 13, 3) := by decide +kernel
theorem dX9_ends_11 : decode cX9_ends 11 = .ok (.aload_n 0, 1) := by decide +kernel
theorem dX9_ends_12 : decode cX9_ends 12 = .ok (.sipush 299, 3) := by decide +kernel
theorem dX9_ends_15 : decode cX9_ends 15 = .ok (.invokevirtual 391, 3) := by decide +kernel
theorem dX9_ends_18 : decode cX9_ends 18 = .ok (.ifCond .ne 5, 3) := by decide +kernel
theorem dX9_ends_21 : decode cX9_ends 21 = .ok (.iconst (-1), 1) := by decide +kernel
theorem dX9_ends_22 : decode cX9_ends 22 = .ok (.ireturn, 1) := by decide +kernel
theorem dX9_ends_23 : decode cX9_ends 23 = .ok (.sipush 299, 3) := by decide +kernel
theorem dX9_ends_26 : decode cX9_ends 26 = .ok (.istore_n 1, 1) := by decide +kernel
theorem dX9_ends_27 : decode cX9_ends 27 = .ok (.iload_n 1, 1) := by decide +kernel
theorem dX9_ends_28 : decode cX9_ends 28 = .ok (.ifCond .le 19, 3) := by decide +kernel
theorem dX9_ends_31 : decode cX9_ends 31 = .ok (.aload_n 0, 1) := by decide +kernel
theorem dX9_ends_32 : decode cX9_ends 32 = .ok (.iload_n 1, 1) := by decide +kernel
theorem dX9_ends_33 : decode cX9_ends 33 = .ok (.iconst 1, 1) := by decide +kernel
theorem dX9_ends_34 : decode cX9_ends 34 = .ok (.isub, 1) := by decide +kernel
theorem dX9_ends_35 : decode cX9_ends 35 = .ok (.invokevirtual 391, 3) := by decide +kernel
theorem dX9_ends_38 : decode cX9_ends 38 = .ok (.ifCond .eq 9, 3) := by decide +kernel
theorem dX9_ends_41 : decode cX9_ends 41 = .ok (.iinc 1 (-1), 3) := by decide +kernel
theorem dX9_ends_44 : decode cX9_ends 44 = .ok (.goto (-17), 3) := by decide +kernel
theorem dX9_ends_47 : decode cX9_ends 47 = .ok (.iload_n 1, 1) := by decide +kernel
theorem dX9_ends_48 : decode cX9_ends 48 = .ok (.ireturn, 1) := by decide +kernel
theorem dX9_up_0 : decode cX9_up 0 = .ok (.aload_n 0, 1) := by decide +kernel
theorem dX9_up_1 : decode cX9_up 1 = .ok (.invokevirtual 387, 3) := by decide +kernel
theorem dX9_up_4 : decode cX9_up 4 = .ok (.iconst 0, 1) := by decide +kernel
theorem dX9_up_5 : decode cX9_up 5 = .ok (.istore_n 1, 1) := by decide +kernel
theorem dX9_up_6 : decode cX9_up 6 = .ok (.iconst 0, 1) := by decide +kernel
theorem dX9_up_7 : decode cX9_up 7 = .ok (.istore_n 2, 1) := by decide +kernel
theorem dX9_up_8 : decode cX9_up 8 = .ok (.iload_n 2, 1) := by decide +kernel
theorem dX9_up_9 : decode cX9_up 9 = .ok (.aload_n 0, 1) := by decide +kernel
theorem dX9_up_10 : decode cX9_up 10 = .ok (.getfield 317, 3) := by decide +kernel
theorem dX9_up_13 : decode cX9_up 13 = .ok (.if_icmp .ge 35, 3) := by decide +kernel
theorem dX9_up_16 : decode cX9_up 16 = .ok (.aload_n 0, 1) := by decide +kernel
theorem dX9_up_17 : decode cX9_up 17 = .ok (.getfield 122, 3) := by decide +kernel
theorem dX9_up_20 : decode cX9_up 20 = .ok (.sipush 300, 3) := by decide +kernel
theorem dX9_up_23 : decode cX9_up 23 = .ok (.iload_n 2, 1) := by decide +kernel
theorem dX9_up_24 : decode cX9_up 24 = .ok (.imul, 1) := by decide +kernel
theorem dX9_up_25 : decode cX9_up 25 = .ok (.sipush 300, 3) := by decide +kernel
theorem dX9_up_28 : decode cX9_up 28 = .ok (.iadd, 1) := by decide +kernel
theorem dX9_up_29 : decode cX9_up 29 = .ok (.iconst 1, 1) := by decide +kernel
theorem dX9_up_30 : decode cX9_up 30 = .ok (.isub, 1) := by decide +kernel
theorem dX9_up_31 : decode cX9_up 31 = .ok (.iaload, 1) := by decide +kernel
theorem dX9_up_32 : decode cX9_up 32 = .ok (.iconst 4, 1) := by decide +kernel
theorem dX9_up_33 : decode cX9_up 33 = .ok (.if_icmp .ne 9, 3) := by decide +kernel
theorem dX9_up_36 : decode cX9_up 36 = .ok (.iload_n 1, 1) := by decide +kernel
theorem dX9_up_37 : decode cX9_up 37 = .ok (.iconst 1, 1) := by decide +kernel
theorem dX9_up_38 : decode cX9_up 38 = .ok (.iload_n 2, 1) := by decide +kernel
theorem dX9_up_39 : decode cX9_up 39 = .ok (.ishl, 1) := by decide +kernel
theorem dX9_up_40 : decode cX9_up 40 = .ok (.ior, 1) := by decide +kernel
theorem dX9_up_41 : decode cX9_up 41 = .ok (.istore_n 1, 1) := by decide +kernel
theorem dX9_up_42 : decode cX9_up 42 = .ok (.iinc 2 1, 3) := by decide +kernel
theorem dX9_up_45 : decode cX9_up 45 = .ok (.goto (-37), 3) := by decide +kernel
theorem dX9_up_48 : decode cX9_up 48 = .ok (.iload_n 1, 1) := by decide +kernel
theorem dX9_up_49 : decode cX9_up 49 = .ok (.ireturn, 1) := by decide +kernel
theorem dX9_log_0 : decode cX9_log 0 = .ok (.aload_n 0, 1) := by decide +kernel
theorem dX9_log_1 : decode cX9_log 1 = .ok (.iload_n 1, 1) := by decide +kernel
theorem dX9_log_2 : decode cX9_log 2 = .ok (.invokevirtual 329, 3) := by decide +kernel
theorem dX9_log_5 : decode cX9_log 5 = .ok (.ifCond .eq 7, 3) := by decide +kernel
theorem dX9_log_8 : decode cX9_log 8 = .ok (.iload_n 2, 1) := by decide +kernel
theorem dX9_log_9 : decode cX9_log 9 = .ok (.ifCond .ge 5, 3) := by decide +kernel
theorem dX9_log_12 : decode cX9_log 12 = .ok (.iconst (-1), 1) := by decide +kernel
theorem dX9_log_13 : decode cX9_log 13 = .ok (.ireturn, 1) := by decide +kernel
theorem dX9_log_14 : decode cX9_log 14 = .ok (.aload_n 0, 1) := by decide +kernel
theorem dX9_log_15 : decode cX9_log 15 = .ok (.invokevirtual 387, 3) := by decide +kernel
theorem dX9_log_18 : decode cX9_log 18 = .ok (.iload_n 2, 1) := by decide +kernel
theorem dX9_log_19 : decode cX9_log 19 = .ok (.istore_n 3, 1) := by decide +kernel
theorem dX9_log_20 : decode cX9_log 20 = .ok (.iconst 0, 1) := by decide +kernel
theorem dX9_log_21 : decode cX9_log 21 = .ok (.istore 4, 2) := by decide +kernel
theorem dX9_log_23 : decode cX9_log 23 = .ok (.iconst 0, 1) := by decide +kernel
theorem dX9_log_24 : decode cX9_log 24 = .ok (.istore 5, 2) := by decide +kernel
theorem dX9_log_26 : decode cX9_log 26 = .ok (.iload 5, 2) := by decide +kernel
theorem dX9_log_28 : decode cX9_log 28 = .ok (.sipush 300, 3) := by decide +kernel
theorem dX9_log_31 : decode cX9_log 31 = .ok (.if_icmp .ge 54, 3) := by decide +kernel
theorem dX9_log_34 : decode cX9_log 34 = .ok (.aload_n 0, 1) := by decide +kernel
theorem dX9_log_35 : decode cX9_log 35 = .ok (.getfield 122, 3) := by decide +kernel
theorem dX9_log_38 : decode cX9_log 38 = .ok (.sipush 300, 3) := by decide +kernel
theorem dX9_log_41 : decode cX9_log 41 = .ok (.iload_n 1, 1) := by decide +kernel
theorem dX9_log_42 : decode cX9_log 42 = .ok (.imul, 1) := by decide +kernel
theorem dX9_log_43 : decode cX9_log 43 = .ok (.iload 5, 2) := by decide +kernel
theorem dX9_log_45 : decode cX9_log 45 = .ok (.iadd, 1) := by decide +kernel
theorem dX9_log_46 : decode cX9_log 46 = .ok (.iaload, 1) := by decide +kernel
theorem dX9_log_47 : decode cX9_log 47 = .ok (.istore 6, 2) := by decide +kernel
theorem dX9_log_49 : decode cX9_log 49 = .ok (.iload 6, 2) := by decide +kernel
theorem dX9_log_51 : decode cX9_log 51 = .ok (.iload 4, 2) := by decide +kernel
theorem dX9_log_53 : decode cX9_log 53 = .ok (.if_icmp .ne 6, 3) := by decide +kernel
theorem dX9_log_56 : decode cX9_log 56 = .ok (.goto 23, 3) := by decide +kernel
theorem dX9_log_59 : decode cX9_log 59 = .ok (.iload 6, 2) := by decide +kernel
theorem dX9_log_61 : decode cX9_log 61 = .ok (.istore 4, 2) := by decide +kernel
theorem dX9_log_63 : decode cX9_log 63 = .ok (.iload_n 3, 1) := by decide +kernel
theorem dX9_log_64 : decode cX9_log 64 = .ok (.ifCond .ne 12, 3) := by decide +kernel
theorem dX9_log_67 : decode cX9_log 67 = .ok (.bipush 10, 2) := by decide +kernel
theorem dX9_log_69 : decode cX9_log 69 = .ok (.iload 5, 2) := by decide +kernel
theorem dX9_log_71 : decode cX9_log 71 = .ok (.imul, 1) := by decide +kernel
theorem dX9_log_72 : decode cX9_log 72 = .ok (.iload 6, 2) := by decide +kernel
theorem dX9_log_74 : decode cX9_log 74 = .ok (.iadd, 1) := by decide +kernel
theorem dX9_log_75 : decode cX9_log 75 = .ok (.ireturn, 1) := by decide +kernel
theorem dX9_log_76 : decode cX9_log 76 = .ok (.iinc 3 (-1), 3) := by decide +kernel
theorem dX9_log_79 : decode cX9_log 79 = .ok (.iinc 5 1, 3) := by decide +kernel
theorem dX9_log_82 : decode cX9_log 82 = .ok (.goto (-56), 3) := by decide +kernel
theorem dX9_log_85 : decode cX9_log 85 = .ok (.iconst (-1), 1) := by decide +kernel
theorem dX9_log_86 : decode cX9_log 86 = .ok (.ireturn, 1) := by decide +kernel
theorem dX9_bits_0 : decode cX9_bits 0 = .ok (.iconst 0, 1) := by decide +kernel
theorem dX9_bits_1 : decode cX9_bits 1 = .ok (.istore_n 1, 1) := by decide +kernel
theorem dX9_bits_2 : decode cX9_bits 2 = .ok (.iconst 0, 1) := by decide +kernel
theorem dX9_bits_3 : decode cX9_bits 3 = .ok (.istore_n 2, 1) := by decide +kernel
theorem dX9_bits_4 : decode cX9_bits 4 = .ok (.iload_n 2, 1) := by decide +kernel
theorem dX9_bits_5 : decode cX9_bits 5 = .ok (.bipush 8, 2) := by decide +kernel
theorem dX9_bits_7 : decode cX9_bits 7 = .ok (.if_icmp .ge 17, 3) := by decide +kernel
theorem dX9_bits_10 : decode cX9_bits 10 = .ok (.iload_n 1, 1) := by decide +kernel
theorem dX9_bits_11 : decode cX9_bits 11 = .ok (.iload_n 0, 1) := by decide +kernel
theorem dX9_bits_12 : decode cX9_bits 12 = .ok (.iload_n 2, 1) := by decide +kernel
theorem dX9_bits_13 : decode cX9_bits 13 = .ok (.ishr, 1) := by decide +kernel
theorem dX9_bits_14 : decode cX9_bits 14 = .ok (.iconst 1, 1) := by decide +kernel
theorem dX9_bits_15 : decode cX9_bits 15 = .ok (.iand, 1) := by decide +kernel
theorem dX9_bits_16 : decode cX9_bits 16 = .ok (.iadd, 1) := by decide +kernel
theorem dX9_bits_17 : decode cX9_bits 17 = .ok (.istore_n 1, 1) := by decide +kernel
theorem dX9_bits_18 : decode cX9_bits 18 = .ok (.iinc 2 1, 3) := by decide +kernel
theorem dX9_bits_21 : decode cX9_bits 21 = .ok (.goto (-17), 3) := by decide +kernel
theorem dX9_bits_24 : decode cX9_bits 24 = .ok (.iload_n 1, 1) := by decide +kernel
theorem dX9_bits_25 : decode cX9_bits 25 = .ok (.ireturn, 1) := by decide +kernel
theorem dX9_plan_0 : decode cX9_plan 0 = .ok (.iload_n 1, 1) := by decide +kernel
theorem dX9_plan_1 : decode cX9_plan 1 = .ok (.iconst 1, 1) := by decide +kernel
theorem dX9_plan_2 : decode cX9_plan 2 = .ok (.if_icmp .lt 9, 3) := by decide +kernel
theorem dX9_plan_5 : decode cX9_plan 5 = .ok (.iload_n 1, 1) := by decide +kernel
theorem dX9_plan_6 : decode cX9_plan 6 = .ok (.bipush 20, 2) := by decide +kernel
theorem dX9_plan_8 : decode cX9_plan 8 = .ok (.if_icmp .le 6, 3) := by decide +kernel
theorem dX9_plan_11 : decode cX9_plan 11 = .ok (.bipush (-2), 2) := by decide +kernel
theorem dX9_plan_13 : decode cX9_plan 13 = .ok (.ireturn, 1) := by decide +kernel
theorem dX9_plan_14 : decode cX9_plan 14 = .ok (.iconst 0, 1) := by decide +kernel
theorem dX9_plan_15 : decode cX9_plan 15 = .ok (.istore_n 2, 1) := by decide +kernel
theorem dX9_plan_16 : decode cX9_plan 16 = .ok (.iconst 0, 1) := by decide +kernel
theorem dX9_plan_17 : decode cX9_plan 17 = .ok (.istore_n 3, 1) := by decide +kernel
theorem dX9_plan_18 : decode cX9_plan 18 = .ok (.iload_n 3, 1) := by decide +kernel
theorem dX9_plan_19 : decode cX9_plan 19 = .ok (.aload_n 0, 1) := by decide +kernel
theorem dX9_plan_20 : decode cX9_plan 20 = .ok (.getfield 317, 3) := by decide +kernel
theorem dX9_plan_23 : decode cX9_plan 23 = .ok (.if_icmp .ge 20, 3) := by decide +kernel
theorem dX9_plan_26 : decode cX9_plan 26 = .ok (.iload_n 2, 1) := by decide +kernel
theorem dX9_plan_27 : decode cX9_plan 27 = .ok (.iconst 1, 1) := by decide +kernel
theorem dX9_plan_28 : decode cX9_plan 28 = .ok (.aload_n 0, 1) := by decide +kernel
theorem dX9_plan_29 : decode cX9_plan 29 = .ok (.getfield 86, 3) := by decide +kernel
theorem dX9_plan_32 : decode cX9_plan 32 = .ok (.iload_n 3, 1) := by decide +kernel
theorem dX9_plan_33 : decode cX9_plan 33 = .ok (.iaload, 1) := by decide +kernel
theorem dX9_plan_34 : decode cX9_plan 34 = .ok (.ishl, 1) := by decide +kernel
theorem dX9_plan_35 : decode cX9_plan 35 = .ok (.ior, 1) := by decide +kernel
theorem dX9_plan_36 : decode cX9_plan 36 = .ok (.istore_n 2, 1) := by decide +kernel
theorem dX9_plan_37 : decode cX9_plan 37 = .ok (.iinc 3 1, 3) := by decide +kernel
theorem dX9_plan_40 : decode cX9_plan 40 = .ok (.goto (-22), 3) := by decide +kernel
theorem dX9_plan_43 : decode cX9_plan 43 = .ok (.iconst (-1), 1) := by decide +kernel
theorem dX9_plan_44 : decode cX9_plan 44 = .ok (.istore_n 3, 1) := by decide +kernel
theorem dX9_plan_45 : decode cX9_plan 45 = .ok (.iconst 0, 1) := by decide +kernel
theorem dX9_plan_46 : decode cX9_plan 46 = .ok (.istore 4, 2) := by decide +kernel
theorem dX9_plan_48 : decode cX9_plan 48 = .ok (.iconst 0, 1) := by decide +kernel
theorem dX9_plan_49 : decode cX9_plan 49 = .ok (.istore 5, 2) := by decide +kernel
theorem dX9_plan_51 : decode cX9_plan 51 = .ok (.iconst 0, 1) := by decide +kernel
theorem dX9_plan_52 : decode cX9_plan 52 = .ok (.istore 6, 2) := by decide +kernel
theorem dX9_plan_54 : decode cX9_plan 54 = .ok (.iload 6, 2) := by decide +kernel
theorem dX9_plan_56 : decode cX9_plan 56 = .ok (.sipush 256, 3) := by decide +kernel
theorem dX9_plan_59 : decode cX9_plan 59 = .ok (.if_icmp .ge 198, 3) := by decide +kernel
theorem dX9_plan_62 : decode cX9_plan 62 = .ok (.iconst 1, 1) := by decide +kernel
theorem dX9_plan_63 : decode cX9_plan 63 = .ok (.istore 7, 2) := by decide +kernel
theorem dX9_plan_65 : decode cX9_plan 65 = .ok (.iconst 0, 1) := by decide +kernel
theorem dX9_plan_66 : decode cX9_plan 66 = .ok (.istore 8, 2) := by decide +kernel
theorem dX9_plan_68 : decode cX9_plan 68 = .ok (.iload 8, 2) := by decide +kernel
theorem dX9_plan_70 : decode cX9_plan 70 = .ok (.iconst 4, 1) := by decide +kernel
theorem dX9_plan_71 : decode cX9_plan 71 = .ok (.if_icmp .ge 61, 3) := by decide +kernel
theorem dX9_plan_74 : decode cX9_plan 74 = .ok (.iload 6, 2) := by decide +kernel
theorem dX9_plan_76 : decode cX9_plan 76 = .ok (.bipush 6, 2) := by decide +kernel
theorem dX9_plan_78 : decode cX9_plan 78 = .ok (.iconst 2, 1) := by decide +kernel
theorem dX9_plan_79 : decode cX9_plan 79 = .ok (.iload 8, 2) := by decide +kernel
theorem dX9_plan_81 : decode cX9_plan 81 = .ok (.imul, 1) := by decide +kernel
theorem dX9_plan_82 : decode cX9_plan 82 = .ok (.isub, 1) := by decide +kernel
theorem dX9_plan_83 : decode cX9_plan 83 = .ok (.ishr, 1) := by decide +kernel
theorem dX9_plan_84 : decode cX9_plan 84 = .ok (.iconst 3, 1) := by decide +kernel
theorem dX9_plan_85 : decode cX9_plan 85 = .ok (.iand, 1) := by decide +kernel
theorem dX9_plan_86 : decode cX9_plan 86 = .ok (.istore 9, 2) := by decide +kernel
theorem dX9_plan_88 : decode cX9_plan 88 = .ok (.aload_n 0, 1) := by decide +kernel
theorem dX9_plan_89 : decode cX9_plan 89 = .ok (.getfield 95, 3) := by decide +kernel
theorem dX9_plan_92 : decode cX9_plan 92 = .ok (.iload 8, 2) := by decide +kernel
theorem dX9_plan_94 : decode cX9_plan 94 = .ok (.iload 9, 2) := by decide +kernel
theorem dX9_plan_96 : decode cX9_plan 96 = .ok (.iload_n 1, 1) := by decide +kernel
theorem dX9_plan_97 : decode cX9_plan 97 = .ok (.imul, 1) := by decide +kernel
theorem dX9_plan_98 : decode cX9_plan 98 = .ok (.iastore, 1) := by decide +kernel
theorem dX9_plan_99 : decode cX9_plan 99 = .ok (.iload 7, 2) := by decide +kernel
theorem dX9_plan_101 : decode cX9_plan 101 = .ok (.ifCond .eq 22, 3) := by decide +kernel
theorem dX9_plan_104 : decode cX9_plan 104 = .ok (.iload 9, 2) := by decide +kernel
theorem dX9_plan_106 : decode cX9_plan 106 = .ok (.ifCond .eq 13, 3) := by decide +kernel
theorem dX9_plan_109 : decode cX9_plan 109 = .ok (.iload_n 2, 1) := by decide +kernel
theorem dX9_plan_110 : decode cX9_plan 110 = .ok (.iload 8, 2) := by decide +kernel
theorem dX9_plan_112 : decode cX9_plan 112 = .ok (.ishr, 1) := by decide +kernel
theorem dX9_plan_113 : decode cX9_plan 113 = .ok (.iconst 1, 1) := by decide +kernel
theorem dX9_plan_114 : decode cX9_plan 114 = .ok (.iand, 1) := by decide +kernel
theorem dX9_plan_115 : decode cX9_plan 115 = .ok (.iconst 1, 1) := by decide +kernel
theorem dX9_plan_116 : decode cX9_plan 116 = .ok (.if_icmp .ne 7, 3) := by decide +kernel
theorem dX9_plan_119 : decode cX9_plan 119 = .ok (.iconst 1, 1) := by decide +kernel
theorem dX9_plan_120 : decode cX9_plan 120 = .ok (.goto 4, 3) := by decide +kernel
theorem dX9_plan_123 : decode cX9_plan 123 = .ok (.iconst 0, 1) := by decide +kernel
theorem dX9_plan_124 : decode cX9_plan 124 = .ok (.istore 7, 2) := by decide +kernel
theorem dX9_plan_126 : decode cX9_plan 126 = .ok (.iinc 8 1, 3) := by decide +kernel
theorem dX9_plan_129 : decode cX9_plan 129 = .ok (.goto (-61), 3) := by decide +kernel
theorem dX9_plan_132 : decode cX9_plan 132 = .ok (.iload 7, 2) := by decide +kernel
theorem dX9_plan_134 : decode cX9_plan 134 = .ok (.ifCond .ne 6, 3) := by decide +kernel
theorem dX9_plan_137 : decode cX9_plan 137 = .ok (.goto 114, 3) := by decide +kernel
theorem dX9_plan_140 : decode cX9_plan 140 = .ok (.aload_n 0, 1) := by decide +kernel
theorem dX9_plan_141 : decode cX9_plan 141 = .ok (.iconst 0, 1) := by decide +kernel
theorem dX9_plan_142 : decode cX9_plan 142 = .ok (.putfield 290, 3) := by decide +kernel
theorem dX9_plan_145 : decode cX9_plan 145 = .ok (.aload_n 0, 1) := by decide +kernel
theorem dX9_plan_146 : decode cX9_plan 146 = .ok (.invokevirtual 394, 3) := by decide +kernel
theorem dX9_plan_149 : decode cX9_plan 149 = .ok (.invokestatic 397, 3) := by decide +kernel
theorem dX9_plan_152 : decode cX9_plan 152 = .ok (.istore 8, 2) := by decide +kernel
theorem dX9_plan_154 : decode cX9_plan 154 = .ok (.aload_n 0, 1) := by decide +kernel
theorem dX9_plan_155 : decode cX9_plan 155 = .ok (.invokevirtual 400, 3) := by decide +kernel
theorem dX9_plan_158 : decode cX9_plan 158 = .ok (.istore 9, 2) := by decide +kernel
theorem dX9_plan_160 : decode cX9_plan 160 = .ok (.iload 9, 2) := by decide +kernel
theorem dX9_plan_162 : decode cX9_plan 162 = .ok (.iconst (-1), 1) := by decide +kernel
theorem dX9_plan_163 : decode cX9_plan 163 = .ok (.if_icmp .ne 8, 3) := by decide +kernel
theorem dX9_plan_166 : decode cX9_plan 166 = .ok (.sipush 300, 3) := by decide +kernel
theorem dX9_plan_169 : decode cX9_plan 169 = .ok (.istore 9, 2) := by decide +kernel
theorem dX9_plan_171 : decode cX9_plan 171 = .ok (.iload 8, 2) := by decide +kernel
theorem dX9_plan_173 : decode cX9_plan 173 = .ok (.iload_n 3, 1) := by decide +kernel
theorem dX9_plan_174 : decode cX9_plan 174 = .ok (.if_icmp .lt 77, 3) := by decide +kernel
theorem dX9_plan_177 : decode cX9_plan 177 = .ok (.iload 8, 2) := by decide +kernel
theorem dX9_plan_179 : decode cX9_plan 179 = .ok (.iload_n 3, 1) := by decide +kernel
theorem dX9_plan_180 : decode cX9_plan 180 = .ok (.if_icmp .ne 29, 3) := by decide +kernel
theorem dX9_plan_183 : decode cX9_plan 183 = .ok (.iload 9, 2) := by decide +kernel
theorem dX9_plan_185 : decode cX9_plan 185 = .ok (.iload 4, 2) := by decide +kernel
theorem dX9_plan_187 : decode cX9_plan 187 = .ok (.if_icmp .gt 64, 3) := by decide +kernel
theorem dX9_plan_190 : decode cX9_plan 190 = .ok (.iload 9, 2) := by decide +kernel
theorem dX9_plan_192 : decode cX9_plan 192 = .ok (.iload 4, 2) := by decide +kernel
theorem dX9_plan_194 : decode cX9_plan 194 = .ok (.if_icmp .ne 15, 3) := by decide +kernel
theorem dX9_plan_197 : decode cX9_plan 197 = .ok (.aload_n 0, 1) := by decide +kernel
theorem dX9_plan_198 : decode cX9_plan 198 = .ok (.getfield 350, 3) := by decide +kernel
theorem dX9_plan_201 : decode cX9_plan 201 = .ok (.iload 5, 2) := by decide +kernel
theorem dX9_plan_203 : decode cX9_plan 203 = .ok (.if_icmp .lt 6, 3) := by decide +kernel
theorem dX9_plan_206 : decode cX9_plan 206 = .ok (.goto 45, 3) := by decide +kernel
theorem dX9_plan_209 : decode cX9_plan 209 = .ok (.iload 8, 2) := by decide +kernel
theorem dX9_plan_211 : decode cX9_plan 211 = .ok (.istore_n 3, 1) := by decide +kernel
theorem dX9_plan_212 : decode cX9_plan 212 = .ok (.iload 9, 2) := by decide +kernel
theorem dX9_plan_214 : decode cX9_plan 214 = .ok (.istore 4, 2) := by decide +kernel
theorem dX9_plan_216 : decode cX9_plan 216 = .ok (.aload_n 0, 1) := by decide +kernel
theorem dX9_plan_217 : decode cX9_plan 217 = .ok (.getfield 350, 3) := by decide +kernel
theorem dX9_plan_220 : decode cX9_plan 220 = .ok (.istore 5, 2) := by decide +kernel
theorem dX9_plan_222 : decode cX9_plan 222 = .ok (.iconst 0, 1) := by decide +kernel
theorem dX9_plan_223 : decode cX9_plan 223 = .ok (.istore 10, 2) := by decide +kernel
theorem dX9_plan_225 : decode cX9_plan 225 = .ok (.iload 10, 2) := by decide +kernel
theorem dX9_plan_227 : decode cX9_plan 227 = .ok (.iconst 4, 1) := by decide +kernel
theorem dX9_plan_228 : decode cX9_plan 228 = .ok (.if_icmp .ge 23, 3) := by decide +kernel
theorem dX9_plan_231 : decode cX9_plan 231 = .ok (.aload_n 0, 1) := by decide +kernel
theorem dX9_plan_232 : decode cX9_plan 232 = .ok (.getfield 203, 3) := by decide +kernel
theorem dX9_plan_235 : decode cX9_plan 235 = .ok (.iload 10, 2) := by decide +kernel
theorem dX9_plan_237 : decode cX9_plan 237 = .ok (.aload_n 0, 1) := by decide +kernel
theorem dX9_plan_238 : decode cX9_plan 238 = .ok (.getfield 95, 3) := by decide +kernel
theorem dX9_plan_241 : decode cX9_plan 241 = .ok (.iload 10, 2) := by decide +kernel
theorem dX9_plan_243 : decode cX9_plan 243 = .ok (.iaload, 1) := by decide +kernel
theorem dX9_plan_244 : decode cX9_plan 244 = .ok (.iastore, 1) := by decide +kernel
theorem dX9_plan_245 : decode cX9_plan 245 = .ok (.iinc 10 1, 3) := by decide +kernel
theorem dX9_plan_248 : decode cX9_plan 248 = .ok (.goto (-23), 3) := by decide +kernel
theorem dX9_plan_251 : decode cX9_plan 251 = .ok (.iinc 6 1, 3) := by decide +kernel
theorem dX9_plan_254 : decode cX9_plan 254 = .ok (.goto (-200), 3) := by decide +kernel
theorem dX9_plan_257 : decode cX9_plan 257 = .ok (.iconst 0, 1) := by decide +kernel
theorem dX9_plan_258 : decode cX9_plan 258 = .ok (.istore 6, 2) := by decide +kernel
theorem dX9_plan_260 : decode cX9_plan 260 = .ok (.iload 6, 2) := by decide +kernel
theorem dX9_plan_262 : decode cX9_plan 262 = .ok (.iconst 4, 1) := by decide +kernel
theorem dX9_plan_263 : decode cX9_plan 263 = .ok (.if_icmp .ge 23, 3) := by decide +kernel
theorem dX9_plan_266 : decode cX9_plan 266 = .ok (.aload_n 0, 1) := by decide +kernel
theorem dX9_plan_267 : decode cX9_plan 267 = .ok (.getfield 95, 3) := by decide +kernel
theorem dX9_plan_270 : decode cX9_plan 270 = .ok (.iload 6, 2) := by decide +kernel
theorem dX9_plan_272 : decode cX9_plan 272 = .ok (.aload_n 0, 1) := by decide +kernel
theorem dX9_plan_273 : decode cX9_plan 273 = .ok (.getfield 203, 3) := by decide +kernel
theorem dX9_plan_276 : decode cX9_plan 276 = .ok (.iload 6, 2) := by decide +kernel
theorem dX9_plan_278 : decode cX9_plan 278 = .ok (.iaload, 1) := by decide +kernel
theorem dX9_plan_279 : decode cX9_plan 279 = .ok (.iastore, 1) := by decide +kernel
theorem dX9_plan_280 : decode cX9_plan 280 = .ok (.iinc 6 1, 3) := by decide +kernel
theorem dX9_plan_283 : decode cX9_plan 283 = .ok (.goto (-23), 3) := by decide +kernel
theorem dX9_plan_286 : decode cX9_plan 286 = .ok (.aload_n 0, 1) := by decide +kernel
theorem dX9_plan_287 : decode cX9_plan 287 = .ok (.iconst 0, 1) := by decide +kernel
theorem dX9_plan_288 : decode cX9_plan 288 = .ok (.putfield 290, 3) := by decide +kernel
theorem dX9_plan_291 : decode cX9_plan 291 = .ok (.iload 4, 2) := by decide +kernel
theorem dX9_plan_293 : decode cX9_plan 293 = .ok (.sipush 300, 3) := by decide +kernel
theorem dX9_plan_296 : decode cX9_plan 296 = .ok (.if_icmp .ne 7, 3) := by decide +kernel
theorem dX9_plan_299 : decode cX9_plan 299 = .ok (.iconst (-1), 1) := by decide +kernel
theorem dX9_plan_300 : decode cX9_plan 300 = .ok (.goto 5, 3) := by decide +kernel
theorem dX9_plan_303 : decode cX9_plan 303 = .ok (.iload 4, 2) := by decide +kernel
theorem dX9_plan_305 : decode cX9_plan 305 = .ok (.ireturn, 1) := by decide +kernel
theorem dX9_wakes_0 : decode cX9_wakes 0 = .ok (.iload_n 1, 1) := by decide +kernel
theorem dX9_wakes_1 : decode cX9_wakes 1 = .ok (.ifCond .lt 17, 3) := by decide +kernel
theorem dX9_wakes_4 : decode cX9_wakes 4 = .ok (.iload_n 1, 1) := by decide +kernel
theorem dX9_wakes_5 : decode cX9_wakes 5 = .ok (.iconst 4, 1) := by decide +kernel
theorem dX9_wakes_6 : decode cX9_wakes 6 = .ok (.if_icmp .ge 12, 3) := by decide +kernel
theorem dX9_wakes_9 : decode cX9_wakes 9 = .ok (.aload_n 0, 1) := by decide +kernel
theorem dX9_wakes_10 : decode cX9_wakes 10 = .ok (.getfield 95, 3) := by decide +kernel
theorem dX9_wakes_13 : decode cX9_wakes 13 = .ok (.iload_n 1, 1) := by decide +kernel
theorem dX9_wakes_14 : decode cX9_wakes 14 = .ok (.iaload, 1) := by decide +kernel
theorem dX9_wakes_15 : decode cX9_wakes 15 = .ok (.goto 4, 3) := by decide +kernel
theorem dX9_wakes_18 : decode cX9_wakes 18 = .ok (.iconst (-1), 1) := by decide +kernel
theorem dX9_wakes_19 : decode cX9_wakes 19 = .ok (.ireturn, 1) := by decide +kernel
theorem dX9_count_0 : decode cX9_count 0 = .ok (.iload_n 1, 1) := by decide +kernel
theorem dX9_count_1 : decode cX9_count 1 = .ok (.tableswitch 107 0 7 #[47, 52, 57, 69, 83, 88, 93, 102], 47) := by decide +kernel
theorem dX9_count_48 : decode cX9_count 48 = .ok (.aload_n 0, 1) := by decide +kernel
theorem dX9_count_49 : decode cX9_count 49 = .ok (.getfield 317, 3) := by decide +kernel
theorem dX9_count_52 : decode cX9_count 52 = .ok (.ireturn, 1) := by decide +kernel
theorem dX9_count_53 : decode cX9_count 53 = .ok (.aload_n 0, 1) := by decide +kernel
theorem dX9_count_54 : decode cX9_count 54 = .ok (.getfield 320, 3) := by decide +kernel
theorem dX9_count_57 : decode cX9_count 57 = .ok (.ireturn, 1) := by decide +kernel
theorem dX9_count_58 : decode cX9_count 58 = .ok (.aload_n 0, 1) := by decide +kernel
theorem dX9_count_59 : decode cX9_count 59 = .ok (.getfield 43, 3) := by decide +kernel
theorem dX9_count_62 : decode cX9_count 62 = .ok (.aload_n 0, 1) := by decide +kernel
theorem dX9_count_63 : decode cX9_count 63 = .ok (.getfield 40, 3) := by decide +kernel
theorem dX9_count_66 : decode cX9_count 66 = .ok (.iconst 0, 1) := by decide +kernel
theorem dX9_count_67 : decode cX9_count 67 = .ok (.iaload, 1) := by decide +kernel
theorem dX9_count_68 : decode cX9_count 68 = .ok (.iaload, 1) := by decide +kernel
theorem dX9_count_69 : decode cX9_count 69 = .ok (.ireturn, 1) := by decide +kernel
theorem dX9_count_70 : decode cX9_count 70 = .ok (.aload_n 0, 1) := by decide +kernel
theorem dX9_count_71 : decode cX9_count 71 = .ok (.getfield 43, 3) := by decide +kernel
theorem dX9_count_74 : decode cX9_count 74 = .ok (.iconst 2, 1) := by decide +kernel
theorem dX9_count_75 : decode cX9_count 75 = .ok (.aload_n 0, 1) := by decide +kernel
theorem dX9_count_76 : decode cX9_count 76 = .ok (.getfield 40, 3) := by decide +kernel
theorem dX9_count_79 : decode cX9_count 79 = .ok (.iconst 1, 1) := by decide +kernel
theorem dX9_count_80 : decode cX9_count 80 = .ok (.iaload, 1) := by decide +kernel
theorem dX9_count_81 : decode cX9_count 81 = .ok (.iadd, 1) := by decide +kernel
theorem dX9_count_82 : decode cX9_count 82 = .ok (.iaload, 1) := by decide +kernel
theorem dX9_count_83 : decode cX9_count 83 = .ok (.ireturn, 1) := by decide +kernel
theorem dX9_count_84 : decode cX9_count 84 = .ok (.aload_n 0, 1) := by decide +kernel
theorem dX9_count_85 : decode cX9_count 85 = .ok (.getfield 326, 3) := by decide +kernel
theorem dX9_count_88 : decode cX9_count 88 = .ok (.ireturn, 1) := by decide +kernel
theorem dX9_count_89 : decode cX9_count 89 = .ok (.aload_n 0, 1) := by decide +kernel
theorem dX9_count_90 : decode cX9_count 90 = .ok (.getfield 210, 3) := by decide +kernel
theorem dX9_count_93 : decode cX9_count 93 = .ok (.ireturn, 1) := by decide +kernel
theorem dX9_count_94 : decode cX9_count 94 = .ok (.aload_n 0, 1) := by decide +kernel
theorem dX9_count_95 : decode cX9_count 95 = .ok (.invokevirtual 387, 3) := by decide +kernel
theorem dX9_count_98 : decode cX9_count 98 = .ok (.aload_n 0, 1) := by decide +kernel
theorem dX9_count_99 : decode cX9_count 99 = .ok (.getfield 350, 3) := by decide +kernel
theorem dX9_count_102 : decode cX9_count 102 = .ok (.ireturn, 1) := by decide +kernel
theorem dX9_count_103 : decode cX9_count 103 = .ok (.aload_n 0, 1) := by decide +kernel
theorem dX9_count_104 : decode cX9_count 104 = .ok (.getfield 213, 3) := by decide +kernel
theorem dX9_count_107 : decode cX9_count 107 = .ok (.ireturn, 1) := by decide +kernel
theorem dX9_count_108 : decode cX9_count 108 = .ok (.iconst (-1), 1) := by decide +kernel
theorem dX9_count_109 : decode cX9_count 109 = .ok (.ireturn, 1) := by decide +kernel
end
section
theorem dL_law_0 : decode cL_law 0 = .ok (.new 7, 3) := by decide +kernel
theorem dL_law_3 : decode cL_law 3 = .ok (.dup, 1) := by decide +kernel
theorem dL_law_4 : decode cL_law 4 = .ok (.invokespecial 9, 3) := by decide +kernel
theorem dL_law_7 : decode cL_law 7 = .ok (.astore_n 1, 1) := by decide +kernel
theorem dL_law_8 : decode cL_law 8 = .ok (.new 10, 3) := by decide +kernel
theorem dL_law_11 : decode cL_law 11 = .ok (.dup, 1) := by decide +kernel
theorem dL_law_12 : decode cL_law 12 = .ok (.invokespecial 12, 3) := by decide +kernel
theorem dL_law_15 : decode cL_law 15 = .ok (.astore_n 2, 1) := by decide +kernel
theorem dL_law_16 : decode cL_law 16 = .ok (.iconst 0, 1) := by decide +kernel
theorem dL_law_17 : decode cL_law 17 = .ok (.istore_n 3, 1) := by decide +kernel
theorem dL_law_18 : decode cL_law 18 = .ok (.iload_n 3, 1) := by decide +kernel
theorem dL_law_19 : decode cL_law 19 = .ok (.aload_n 0, 1) := by decide +kernel
theorem dL_law_20 : decode cL_law 20 = .ok (.arraylength, 1) := by decide +kernel
theorem dL_law_21 : decode cL_law 21 = .ok (.bipush 6, 2) := by decide +kernel
theorem dL_law_23 : decode cL_law 23 = .ok (.isub, 1) := by decide +kernel
theorem dL_law_24 : decode cL_law 24 = .ok (.if_icmp .gt 794, 3) := by decide +kernel
theorem dL_law_27 : decode cL_law 27 = .ok (.aload_n 0, 1) := by decide +kernel
theorem dL_law_28 : decode cL_law 28 = .ok (.iload_n 3, 1) := by decide +kernel
theorem dL_law_29 : decode cL_law 29 = .ok (.iaload, 1) := by decide +kernel
theorem dL_law_30 : decode cL_law 30 = .ok (.bipush 31, 2) := by decide +kernel
theorem dL_law_32 : decode cL_law 32 = .ok (.iand, 1) := by decide +kernel
theorem dL_law_33 : decode cL_law 33 = .ok (.tableswitch 779 0 21 #[103, 166, 189, 212, 225, 268, 301, 324, 357, 390, 433, 476, 509, 552, 595, 618, 651, 664, 677, 710, 733, 756], 103) := by decide +kernel
theorem dL_law_136 : decode cL_law 136 = .ok (.aload_n 1, 1) := by decide +kernel
theorem dL_law_137 : decode cL_law 137 = .ok (.aload_n 0, 1) := by decide +kernel
theorem dL_law_138 : decode cL_law 138 = .ok (.iload_n 3, 1) := by decide +kernel
theorem dL_law_139 : decode cL_law 139 = .ok (.iconst 1, 1) := by decide +kernel
theorem dL_law_140 : decode cL_law 140 = .ok (.iadd, 1) := by decide +kernel
theorem dL_law_141 : decode cL_law 141 = .ok (.iaload, 1) := by decide +kernel
theorem dL_law_142 : decode cL_law 142 = .ok (.aload_n 0, 1) := by decide +kernel
theorem dL_law_143 : decode cL_law 143 = .ok (.iload_n 3, 1) := by decide +kernel
theorem dL_law_144 : decode cL_law 144 = .ok (.iconst 2, 1) := by decide +kernel
theorem dL_law_145 : decode cL_law 145 = .ok (.iadd, 1) := by decide +kernel
theorem dL_law_146 : decode cL_law 146 = .ok (.iaload, 1) := by decide +kernel
theorem dL_law_147 : decode cL_law 147 = .ok (.aload_n 0, 1) := by decide +kernel
theorem dL_law_148 : decode cL_law 148 = .ok (.iload_n 3, 1) := by decide +kernel
theorem dL_law_149 : decode cL_law 149 = .ok (.iconst 3, 1) := by decide +kernel
theorem dL_law_150 : decode cL_law 150 = .ok (.iadd, 1) := by decide +kernel
theorem dL_law_151 : decode cL_law 151 = .ok (.iaload, 1) := by decide +kernel
theorem dL_law_152 : decode cL_law 152 = .ok (.aload_n 0, 1) := by decide +kernel
theorem dL_law_153 : decode cL_law 153 = .ok (.iload_n 3, 1) := by decide +kernel
theorem dL_law_154 : decode cL_law 154 = .ok (.iconst 4, 1) := by decide +kernel
theorem dL_law_155 : decode cL_law 155 = .ok (.iadd, 1) := by decide +kernel
theorem dL_law_156 : decode cL_law 156 = .ok (.iaload, 1) := by decide +kernel
theorem dL_law_157 : decode cL_law 157 = .ok (.aload_n 0, 1) := by decide +kernel
theorem dL_law_158 : decode cL_law 158 = .ok (.iload_n 3, 1) := by decide +kernel
theorem dL_law_159 : decode cL_law 159 = .ok (.iconst 5, 1) := by decide +kernel
theorem dL_law_160 : decode cL_law 160 = .ok (.iadd, 1) := by decide +kernel
theorem dL_law_161 : decode cL_law 161 = .ok (.iaload, 1) := by decide +kernel
theorem dL_law_162 : decode cL_law 162 = .ok (.invokevirtual 13, 3) := by decide +kernel
theorem dL_law_165 : decode cL_law 165 = .ok (.aload_n 2, 1) := by decide +kernel
theorem dL_law_166 : decode cL_law 166 = .ok (.aload_n 0, 1) := by decide +kernel
theorem dL_law_167 : decode cL_law 167 = .ok (.iload_n 3, 1) := by decide +kernel
theorem dL_law_168 : decode cL_law 168 = .ok (.iconst 1, 1) := by decide +kernel
theorem dL_law_169 : decode cL_law 169 = .ok (.iadd, 1) := by decide +kernel
theorem dL_law_170 : decode cL_law 170 = .ok (.iaload, 1) := by decide +kernel
theorem dL_law_171 : decode cL_law 171 = .ok (.aload_n 0, 1) := by decide +kernel
theorem dL_law_172 : decode cL_law 172 = .ok (.iload_n 3, 1) := by decide +kernel
theorem dL_law_173 : decode cL_law 173 = .ok (.iconst 2, 1) := by decide +kernel
theorem dL_law_174 : decode cL_law 174 = .ok (.iadd, 1) := by decide +kernel
theorem dL_law_175 : decode cL_law 175 = .ok (.iaload, 1) := by decide +kernel
theorem dL_law_176 : decode cL_law 176 = .ok (.aload_n 0, 1) := by decide +kernel
theorem dL_law_177 : decode cL_law 177 = .ok (.iload_n 3, 1) := by decide +kernel
theorem dL_law_178 : decode cL_law 178 = .ok (.iconst 3, 1) := by decide +kernel
theorem dL_law_179 : decode cL_law 179 = .ok (.iadd, 1) := by decide +kernel
theorem dL_law_180 : decode cL_law 180 = .ok (.iaload, 1) := by decide +kernel
theorem dL_law_181 : decode cL_law 181 = .ok (.aload_n 0, 1) := by decide +kernel
theorem dL_law_182 : decode cL_law 182 = .ok (.iload_n 3, 1) := by decide +kernel
theorem dL_law_183 : decode cL_law 183 = .ok (.iconst 4, 1) := by decide +kernel
theorem dL_law_184 : decode cL_law 184 = .ok (.iadd, 1) := by decide +kernel
theorem dL_law_185 : decode cL_law 185 = .ok (.iaload, 1) := by decide +kernel
theorem dL_law_186 : decode cL_law 186 = .ok (.aload_n 0, 1) := by decide +kernel
theorem dL_law_187 : decode cL_law 187 = .ok (.iload_n 3, 1) := by decide +kernel
theorem dL_law_188 : decode cL_law 188 = .ok (.iconst 5, 1) := by decide +kernel
theorem dL_law_189 : decode cL_law 189 = .ok (.iadd, 1) := by decide +kernel
theorem dL_law_190 : decode cL_law 190 = .ok (.iaload, 1) := by decide +kernel
theorem dL_law_191 : decode cL_law 191 = .ok (.invokevirtual 17, 3) := by decide +kernel
theorem dL_law_194 : decode cL_law 194 = .ok (.if_icmp .eq 618, 3) := by decide +kernel
theorem dL_law_197 : decode cL_law 197 = .ok (.iconst 0, 1) := by decide +kernel
theorem dL_law_198 : decode cL_law 198 = .ok (.ireturn, 1) := by decide +kernel
theorem dL_law_199 : decode cL_law 199 = .ok (.aload_n 1, 1) := by decide +kernel
theorem dL_law_200 : decode cL_law 200 = .ok (.aload_n 0, 1) := by decide +kernel
theorem dL_law_201 : decode cL_law 201 = .ok (.iload_n 3, 1) := by decide +kernel
theorem dL_law_202 : decode cL_law 202 = .ok (.iconst 1, 1) := by decide +kernel
theorem dL_law_203 : decode cL_law 203 = .ok (.iadd, 1) := by decide +kernel
theorem dL_law_204 : decode cL_law 204 = .ok (.iaload, 1) := by decide +kernel
theorem dL_law_205 : decode cL_law 205 = .ok (.invokevirtual 18, 3) := by decide +kernel
theorem dL_law_208 : decode cL_law 208 = .ok (.aload_n 2, 1) := by decide +kernel
theorem dL_law_209 : decode cL_law 209 = .ok (.aload_n 0, 1) := by decide +kernel
theorem dL_law_210 : decode cL_law 210 = .ok (.iload_n 3, 1) := by decide +kernel
theorem dL_law_211 : decode cL_law 211 = .ok (.iconst 1, 1) := by decide +kernel
theorem dL_law_212 : decode cL_law 212 = .ok (.iadd, 1) := by decide +kernel
theorem dL_law_213 : decode cL_law 213 = .ok (.iaload, 1) := by decide +kernel
theorem dL_law_214 : decode cL_law 214 = .ok (.invokevirtual 22, 3) := by decide +kernel
theorem dL_law_217 : decode cL_law 217 = .ok (.if_icmp .eq 595, 3) := by decide +kernel
theorem dL_law_220 : decode cL_law 220 = .ok (.iconst 0, 1) := by decide +kernel
theorem dL_law_221 : decode cL_law 221 = .ok (.ireturn, 1) := by decide +kernel
theorem dL_law_222 : decode cL_law 222 = .ok (.aload_n 1, 1) := by decide +kernel
theorem dL_law_223 : decode cL_law 223 = .ok (.aload_n 0, 1) := by decide +kernel
theorem dL_law_224 : decode cL_law 224 = .ok (.iload_n 3, 1) := by decide +kernel
theorem dL_law_225 : decode cL_law 225 = .ok (.iconst 1, 1) := by decide +kernel
theorem dL_law_226 : decode cL_law 226 = .ok (.iadd, 1) := by decide +kernel
theorem dL_law_227 : decode cL_law 227 = .ok (.iaload, 1) := by decide +kernel
theorem dL_law_228 : decode cL_law 228 = .ok (.invokevirtual 23, 3) := by decide +kernel
theorem dL_law_231 : decode cL_law 231 = .ok (.aload_n 2, 1) := by decide +kernel
theorem dL_law_232 : decode cL_law 232 = .ok (.aload_n 0, 1) := by decide +kernel
theorem dL_law_233 : decode cL_law 233 = .ok (.iload_n 3, 1) := by decide +kernel
theorem dL_law_234 : decode cL_law 234 = .ok (.iconst 1, 1) := by decide +kernel
theorem dL_law_235 : decode cL_law 235 = .ok (.iadd, 1) := by decide +kernel
theorem dL_law_236 : decode cL_law 236 = .ok (.iaload, 1) := by decide +kernel
theorem dL_law_237 : decode cL_law 237 = .ok (.invokevirtual 26, 3) := by decide +kernel
theorem dL_law_240 : decode cL_law 240 = .ok (.if_icmp .eq 572, 3) := by decide +kernel
theorem dL_law_243 : decode cL_law 243 = .ok (.iconst 0, 1) := by decide +kernel
theorem dL_law_244 : decode cL_law 244 = .ok (.ireturn, 1) := by decide +kernel
theorem dL_law_245 : decode cL_law 245 = .ok (.aload_n 1, 1) := by decide +kernel
theorem dL_law_246 : decode cL_law 246 = .ok (.invokevirtual 27, 3) := by decide +kernel
theorem dL_law_249 : decode cL_law 249 = .ok (.aload_n 2, 1) := by decide +kernel
theorem dL_law_250 : decode cL_law 250 = .ok (.invokevirtual 31, 3) := by decide +kernel
theorem dL_law_253 : decode cL_law 253 = .ok (.if_icmp .eq 559, 3) := by decide +kernel
theorem dL_law_256 : decode cL_law 256 = .ok (.iconst 0, 1) := by decide +kernel
theorem dL_law_257 : decode cL_law 257 = .ok (.ireturn, 1) := by decide +kernel
theorem dL_law_258 : decode cL_law 258 = .ok (.aload_n 1, 1) := by decide +kernel
theorem dL_law_259 : decode cL_law 259 = .ok (.aload_n 0, 1) := by decide +kernel
theorem dL_law_260 : decode cL_law 260 = .ok (.iload_n 3, 1) := by decide +kernel
theorem dL_law_261 : decode cL_law 261 = .ok (.iconst 1, 1) := by decide +kernel
theorem dL_law_262 : decode cL_law 262 = .ok (.iadd, 1) := by decide +kernel
theorem dL_law_263 : decode cL_law 263 = .ok (.iaload, 1) := by decide +kernel
theorem dL_law_264 : decode cL_law 264 = .ok (.aload_n 0, 1) := by decide +kernel
theorem dL_law_265 : decode cL_law 265 = .ok (.iload_n 3, 1) := by decide +kernel
theorem dL_law_266 : decode cL_law 266 = .ok (.iconst 2, 1) := by decide +kernel
theorem dL_law_267 : decode cL_law 267 = .ok (.iadd, 1) := by decide +kernel
theorem dL_law_268 : decode cL_law 268 = .ok (.iaload, 1) := by decide +kernel
theorem dL_law_269 : decode cL_law 269 = .ok (.aload_n 0, 1) := by decide +kernel
theorem dL_law_270 : decode cL_law 270 = .ok (.iload_n 3, 1) := by decide +kernel
theorem dL_law_271 : decode cL_law 271 = .ok (.iconst 3, 1) := by decide +kernel
theorem dL_law_272 : decode cL_law 272 = .ok (.iadd, 1) := by decide +kernel
theorem dL_law_273 : decode cL_law 273 = .ok (.iaload, 1) := by decide +kernel
theorem dL_law_274 : decode cL_law 274 = .ok (.invokevirtual 32, 3) := by decide +kernel
theorem dL_law_277 : decode cL_law 277 = .ok (.aload_n 2, 1) := by decide +kernel
theorem dL_law_278 : decode cL_law 278 = .ok (.aload_n 0, 1) := by decide +kernel
theorem dL_law_279 : decode cL_law 279 = .ok (.iload_n 3, 1) := by decide +kernel
theorem dL_law_280 : decode cL_law 280 = .ok (.iconst 1, 1) := by decide +kernel
theorem dL_law_281 : decode cL_law 281 = .ok (.iadd, 1) := by decide +kernel
theorem dL_law_282 : decode cL_law 282 = .ok (.iaload, 1) := by decide +kernel
theorem dL_law_283 : decode cL_law 283 = .ok (.aload_n 0, 1) := by decide +kernel
theorem dL_law_284 : decode cL_law 284 = .ok (.iload_n 3, 1) := by decide +kernel
theorem dL_law_285 : decode cL_law 285 = .ok (.iconst 2, 1) := by decide +kernel
theorem dL_law_286 : decode cL_law 286 = .ok (.iadd, 1) := by decide +kernel
theorem dL_law_287 : decode cL_law 287 = .ok (.iaload, 1) := by decide +kernel
theorem dL_law_288 : decode cL_law 288 = .ok (.aload_n 0, 1) := by decide +kernel
theorem dL_law_289 : decode cL_law 289 = .ok (.iload_n 3, 1) := by decide +kernel
theorem dL_law_290 : decode cL_law 290 = .ok (.iconst 3, 1) := by decide +kernel
theorem dL_law_291 : decode cL_law 291 = .ok (.iadd, 1) := by decide +kernel
theorem dL_law_292 : decode cL_law 292 = .ok (.iaload, 1) := by decide +kernel
theorem dL_law_293 : decode cL_law 293 = .ok (.invokevirtual 36, 3) := by decide +kernel
theorem dL_law_296 : decode cL_law 296 = .ok (.if_icmp .eq 516, 3) := by decide +kernel
theorem dL_law_299 : decode cL_law 299 = .ok (.iconst 0, 1) := by decide +kernel
theorem dL_law_300 : decode cL_law 300 = .ok (.ireturn, 1) := by decide +kernel
theorem dL_law_301 : decode cL_law 301 = .ok (.aload_n 1, 1) := by decide +kernel
theorem dL_law_302 : decode cL_law 302 = .ok (.aload_n 0, 1) := by decide +kernel
theorem dL_law_303 : decode cL_law 303 = .ok (.iload_n 3, 1) := by decide +kernel
theorem dL_law_304 : decode cL_law 304 = .ok (.iconst 1, 1) := by decide +kernel
theorem dL_law_305 : decode cL_law 305 = .ok (.iadd, 1) := by decide +kernel
theorem dL_law_306 : decode cL_law 306 = .ok (.iaload, 1) := by decide +kernel
theorem dL_law_307 : decode cL_law 307 = .ok (.aload_n 0, 1) := by decide +kernel
theorem dL_law_308 : decode cL_law 308 = .ok (.iload_n 3, 1) := by decide +kernel
theorem dL_law_309 : decode cL_law 309 = .ok (.iconst 2, 1) := by decide +kernel
theorem dL_law_310 : decode cL_law 310 = .ok (.iadd, 1) := by decide +kernel
theorem dL_law_311 : decode cL_law 311 = .ok (.iaload, 1) := by decide +kernel
theorem dL_law_312 : decode cL_law 312 = .ok (.invokevirtual 37, 3) := by decide +kernel
theorem dL_law_315 : decode cL_law 315 = .ok (.aload_n 2, 1) := by decide +kernel
theorem dL_law_316 : decode cL_law 316 = .ok (.aload_n 0, 1) := by decide +kernel
theorem dL_law_317 : decode cL_law 317 = .ok (.iload_n 3, 1) := by decide +kernel
theorem dL_law_318 : decode cL_law 318 = .ok (.iconst 1, 1) := by decide +kernel
theorem dL_law_319 : decode cL_law 319 = .ok (.iadd, 1) := by decide +kernel
theorem dL_law_320 : decode cL_law 320 = .ok (.iaload, 1) := by decide +kernel
theorem dL_law_321 : decode cL_law 321 = .ok (.aload_n 0, 1) := by decide +kernel
theorem dL_law_322 : decode cL_law 322 = .ok (.iload_n 3, 1) := by decide +kernel
theorem dL_law_323 : decode cL_law 323 = .ok (.iconst 2, 1) := by decide +kernel
theorem dL_law_324 : decode cL_law 324 = .ok (.iadd, 1) := by decide +kernel
theorem dL_law_325 : decode cL_law 325 = .ok (.iaload, 1) := by decide +kernel
theorem dL_law_326 : decode cL_law 326 = .ok (.invokevirtual 41, 3) := by decide +kernel
theorem dL_law_329 : decode cL_law 329 = .ok (.if_icmp .eq 483, 3) := by decide +kernel
theorem dL_law_332 : decode cL_law 332 = .ok (.iconst 0, 1) := by decide +kernel
theorem dL_law_333 : decode cL_law 333 = .ok (.ireturn, 1) := by decide +kernel
theorem dL_law_334 : decode cL_law 334 = .ok (.aload_n 1, 1) := by decide +kernel
theorem dL_law_335 : decode cL_law 335 = .ok (.aload_n 0, 1) := by decide +kernel
theorem dL_law_336 : decode cL_law 336 = .ok (.iload_n 3, 1) := by decide +kernel
theorem dL_law_337 : decode cL_law 337 = .ok (.iconst 1, 1) := by decide +kernel
theorem dL_law_338 : decode cL_law 338 = .ok (.iadd, 1) := by decide +kernel
theorem dL_law_339 : decode cL_law 339 = .ok (.iaload, 1) := by decide +kernel
theorem dL_law_340 : decode cL_law 340 = .ok (.invokevirtual 42, 3) := by decide +kernel
theorem dL_law_343 : decode cL_law 343 = .ok (.aload_n 2, 1) := by decide +kernel
theorem dL_law_344 : decode cL_law 344 = .ok (.aload_n 0, 1) := by decide +kernel
theorem dL_law_345 : decode cL_law 345 = .ok (.iload_n 3, 1) := by decide +kernel
theorem dL_law_346 : decode cL_law 346 = .ok (.iconst 1, 1) := by decide +kernel
theorem dL_law_347 : decode cL_law 347 = .ok (.iadd, 1) := by decide +kernel
theorem dL_law_348 : decode cL_law 348 = .ok (.iaload, 1) := by decide +kernel
theorem dL_law_349 : decode cL_law 349 = .ok (.invokevirtual 46, 3) := by decide +kernel
theorem dL_law_352 : decode cL_law 352 = .ok (.if_icmp .eq 460, 3) := by decide +kernel
theorem dL_law_355 : decode cL_law 355 = .ok (.iconst 0, 1) := by decide +kernel
theorem dL_law_356 : decode cL_law 356 = .ok (.ireturn, 1) := by decide +kernel
theorem dL_law_357 : decode cL_law 357 = .ok (.aload_n 1, 1) := by decide +kernel
theorem dL_law_358 : decode cL_law 358 = .ok (.aload_n 0, 1) := by decide +kernel
theorem dL_law_359 : decode cL_law 359 = .ok (.iload_n 3, 1) := by decide +kernel
theorem dL_law_360 : decode cL_law 360 = .ok (.iconst 1, 1) := by decide +kernel
theorem dL_law_361 : decode cL_law 361 = .ok (.iadd, 1) := by decide +kernel
theorem dL_law_362 : decode cL_law 362 = .ok (.iaload, 1) := by decide +kernel
theorem dL_law_363 : decode cL_law 363 = .ok (.aload_n 0, 1) := by decide +kernel
theorem dL_law_364 : decode cL_law 364 = .ok (.iload_n 3, 1) := by decide +kernel
theorem dL_law_365 : decode cL_law 365 = .ok (.iconst 2, 1) := by decide +kernel
theorem dL_law_366 : decode cL_law 366 = .ok (.iadd, 1) := by decide +kernel
theorem dL_law_367 : decode cL_law 367 = .ok (.iaload, 1) := by decide +kernel
theorem dL_law_368 : decode cL_law 368 = .ok (.invokevirtual 47, 3) := by decide +kernel
theorem dL_law_371 : decode cL_law 371 = .ok (.aload_n 2, 1) := by decide +kernel
theorem dL_law_372 : decode cL_law 372 = .ok (.aload_n 0, 1) := by decide +kernel
theorem dL_law_373 : decode cL_law 373 = .ok (.iload_n 3, 1) := by decide +kernel
theorem dL_law_374 : decode cL_law 374 = .ok (.iconst 1, 1) := by decide +kernel
theorem dL_law_375 : decode cL_law 375 = .ok (.iadd, 1) := by decide +kernel
theorem dL_law_376 : decode cL_law 376 = .ok (.iaload, 1) := by decide +kernel
theorem dL_law_377 : decode cL_law 377 = .ok (.aload_n 0, 1) := by decide +kernel
theorem dL_law_378 : decode cL_law 378 = .ok (.iload_n 3, 1) := by decide +kernel
theorem dL_law_379 : decode cL_law 379 = .ok (.iconst 2, 1) := by decide +kernel
theorem dL_law_380 : decode cL_law 380 = .ok (.iadd, 1) := by decide +kernel
theorem dL_law_381 : decode cL_law 381 = .ok (.iaload, 1) := by decide +kernel
theorem dL_law_382 : decode cL_law 382 = .ok (.invokevirtual 51, 3) := by decide +kernel
theorem dL_law_385 : decode cL_law 385 = .ok (.if_icmp .eq 427, 3) := by decide +kernel
theorem dL_law_388 : decode cL_law 388 = .ok (.iconst 0, 1) := by decide +kernel
theorem dL_law_389 : decode cL_law 389 = .ok (.ireturn, 1) := by decide +kernel
theorem dL_law_390 : decode cL_law 390 = .ok (.aload_n 1, 1) := by decide +kernel
theorem dL_law_391 : decode cL_law 391 = .ok (.aload_n 0, 1) := by decide +kernel
theorem dL_law_392 : decode cL_law 392 = .ok (.iload_n 3, 1) := by decide +kernel
theorem dL_law_393 : decode cL_law 393 = .ok (.iconst 1, 1) := by decide +kernel
theorem dL_law_394 : decode cL_law 394 = .ok (.iadd, 1) := by decide +kernel
theorem dL_law_395 : decode cL_law 395 = .ok (.iaload, 1) := by decide +kernel
theorem dL_law_396 : decode cL_law 396 = .ok (.aload_n 0, 1) := by decide +kernel
theorem dL_law_397 : decode cL_law 397 = .ok (.iload_n 3, 1) := by decide +kernel
theorem dL_law_398 : decode cL_law 398 = .ok (.iconst 2, 1) := by decide +kernel
theorem dL_law_399 : decode cL_law 399 = .ok (.iadd, 1) := by decide +kernel
theorem dL_law_400 : decode cL_law 400 = .ok (.iaload, 1) := by decide +kernel
theorem dL_law_401 : decode cL_law 401 = .ok (.invokevirtual 52, 3) := by decide +kernel
theorem dL_law_404 : decode cL_law 404 = .ok (.aload_n 2, 1) := by decide +kernel
theorem dL_law_405 : decode cL_law 405 = .ok (.aload_n 0, 1) := by decide +kernel
theorem dL_law_406 : decode cL_law 406 = .ok (.iload_n 3, 1) := by decide +kernel
theorem dL_law_407 : decode cL_law 407 = .ok (.iconst 1, 1) := by decide +kernel
theorem dL_law_408 : decode cL_law 408 = .ok (.iadd, 1) := by decide +kernel
theorem dL_law_409 : decode cL_law 409 = .ok (.iaload, 1) := by decide +kernel
theorem dL_law_410 : decode cL_law 410 = .ok (.aload_n 0, 1) := by decide +kernel
theorem dL_law_411 : decode cL_law 411 = .ok (.iload_n 3, 1) := by decide +kernel
theorem dL_law_412 : decode cL_law 412 = .ok (.iconst 2, 1) := by decide +kernel
theorem dL_law_413 : decode cL_law 413 = .ok (.iadd, 1) := by decide +kernel
theorem dL_law_414 : decode cL_law 414 = .ok (.iaload, 1) := by decide +kernel
theorem dL_law_415 : decode cL_law 415 = .ok (.invokevirtual 55, 3) := by decide +kernel
theorem dL_law_418 : decode cL_law 418 = .ok (.if_icmp .eq 394, 3) := by decide +kernel
theorem dL_law_421 : decode cL_law 421 = .ok (.iconst 0, 1) := by decide +kernel
theorem dL_law_422 : decode cL_law 422 = .ok (.ireturn, 1) := by decide +kernel
theorem dL_law_423 : decode cL_law 423 = .ok (.aload_n 1, 1) := by decide +kernel
theorem dL_law_424 : decode cL_law 424 = .ok (.aload_n 0, 1) := by decide +kernel
theorem dL_law_425 : decode cL_law 425 = .ok (.iload_n 3, 1) := by decide +kernel
theorem dL_law_426 : decode cL_law 426 = .ok (.iconst 1, 1) := by decide +kernel
theorem dL_law_427 : decode cL_law 427 = .ok (.iadd, 1) := by decide +kernel
theorem dL_law_428 : decode cL_law 428 = .ok (.iaload, 1) := by decide +kernel
theorem dL_law_429 : decode cL_law 429 = .ok (.aload_n 0, 1) := by decide +kernel
theorem dL_law_430 : decode cL_law 430 = .ok (.iload_n 3, 1) := by decide +kernel
theorem dL_law_431 : decode cL_law 431 = .ok (.iconst 2, 1) := by decide +kernel
theorem dL_law_432 : decode cL_law 432 = .ok (.iadd, 1) := by decide +kernel
theorem dL_law_433 : decode cL_law 433 = .ok (.iaload, 1) := by decide +kernel
theorem dL_law_434 : decode cL_law 434 = .ok (.aload_n 0, 1) := by decide +kernel
theorem dL_law_435 : decode cL_law 435 = .ok (.iload_n 3, 1) := by decide +kernel
theorem dL_law_436 : decode cL_law 436 = .ok (.iconst 3, 1) := by decide +kernel
theorem dL_law_437 : decode cL_law 437 = .ok (.iadd, 1) := by decide +kernel
theorem dL_law_438 : decode cL_law 438 = .ok (.iaload, 1) := by decide +kernel
theorem dL_law_439 : decode cL_law 439 = .ok (.invokevirtual 56, 3) := by decide +kernel
theorem dL_law_442 : decode cL_law 442 = .ok (.aload_n 2, 1) := by decide +kernel
theorem dL_law_443 : decode cL_law 443 = .ok (.aload_n 0, 1) := by decide +kernel
theorem dL_law_444 : decode cL_law 444 = .ok (.iload_n 3, 1) := by decide +kernel
theorem dL_law_445 : decode cL_law 445 = .ok (.iconst 1, 1) := by decide +kernel
theorem dL_law_446 : decode cL_law 446 = .ok (.iadd, 1) := by decide +kernel
theorem dL_law_447 : decode cL_law 447 = .ok (.iaload, 1) := by decide +kernel
theorem dL_law_448 : decode cL_law 448 = .ok (.aload_n 0, 1) := by decide +kernel
theorem dL_law_449 : decode cL_law 449 = .ok (.iload_n 3, 1) := by decide +kernel
theorem dL_law_450 : decode cL_law 450 = .ok (.iconst 2, 1) := by decide +kernel
theorem dL_law_451 : decode cL_law 451 = .ok (.iadd, 1) := by decide +kernel
theorem dL_law_452 : decode cL_law 452 = .ok (.iaload, 1) := by decide +kernel
theorem dL_law_453 : decode cL_law 453 = .ok (.aload_n 0, 1) := by decide +kernel
theorem dL_law_454 : decode cL_law 454 = .ok (.iload_n 3, 1) := by decide +kernel
theorem dL_law_455 : decode cL_law 455 = .ok (.iconst 3, 1) := by decide +kernel
theorem dL_law_456 : decode cL_law 456 = .ok (.iadd, 1) := by decide +kernel
theorem dL_law_457 : decode cL_law 457 = .ok (.iaload, 1) := by decide +kernel
theorem dL_law_458 : decode cL_law 458 = .ok (.invokevirtual 59, 3) := by decide +kernel
theorem dL_law_461 : decode cL_law 461 = .ok (.if_icmp .eq 351, 3) := by decide +kernel
theorem dL_law_464 : decode cL_law 464 = .ok (.iconst 0, 1) := by decide +kernel
theorem dL_law_465 : decode cL_law 465 = .ok (.ireturn, 1) := by decide +kernel
theorem dL_law_466 : decode cL_law 466 = .ok (.aload_n 1, 1) := by decide +kernel
theorem dL_law_467 : decode cL_law 467 = .ok (.aload_n 0, 1) := by decide +kernel
theorem dL_law_468 : decode cL_law 468 = .ok (.iload_n 3, 1) := by decide +kernel
theorem dL_law_469 : decode cL_law 469 = .ok (.iconst 1, 1) := by decide +kernel
theorem dL_law_470 : decode cL_law 470 = .ok (.iadd, 1) := by decide +kernel
theorem dL_law_471 : decode cL_law 471 = .ok (.iaload, 1) := by decide +kernel
theorem dL_law_472 : decode cL_law 472 = .ok (.aload_n 0, 1) := by decide +kernel
theorem dL_law_473 : decode cL_law 473 = .ok (.iload_n 3, 1) := by decide +kernel
theorem dL_law_474 : decode cL_law 474 = .ok (.iconst 2, 1) := by decide +kernel
theorem dL_law_475 : decode cL_law 475 = .ok (.iadd, 1) := by decide +kernel
theorem dL_law_476 : decode cL_law 476 = .ok (.iaload, 1) := by decide +kernel
theorem dL_law_477 : decode cL_law 477 = .ok (.aload_n 0, 1) := by decide +kernel
theorem dL_law_478 : decode cL_law 478 = .ok (.iload_n 3, 1) := by decide +kernel
theorem dL_law_479 : decode cL_law 479 = .ok (.iconst 3, 1) := by decide +kernel
theorem dL_law_480 : decode cL_law 480 = .ok (.iadd, 1) := by decide +kernel
theorem dL_law_481 : decode cL_law 481 = .ok (.iaload, 1) := by decide +kernel
theorem dL_law_482 : decode cL_law 482 = .ok (.invokevirtual 60, 3) := by decide +kernel
theorem dL_law_485 : decode cL_law 485 = .ok (.aload_n 2, 1) := by decide +kernel
theorem dL_law_486 : decode cL_law 486 = .ok (.aload_n 0, 1) := by decide +kernel
theorem dL_law_487 : decode cL_law 487 = .ok (.iload_n 3, 1) := by decide +kernel
theorem dL_law_488 : decode cL_law 488 = .ok (.iconst 1, 1) := by decide +kernel
theorem dL_law_489 : decode cL_law 489 = .ok (.iadd, 1) := by decide +kernel
theorem dL_law_490 : decode cL_law 490 = .ok (.iaload, 1) := by decide +kernel
theorem dL_law_491 : decode cL_law 491 = .ok (.aload_n 0, 1) := by decide +kernel
theorem dL_law_492 : decode cL_law 492 = .ok (.iload_n 3, 1) := by decide +kernel
theorem dL_law_493 : decode cL_law 493 = .ok (.iconst 2, 1) := by decide +kernel
theorem dL_law_494 : decode cL_law 494 = .ok (.iadd, 1) := by decide +kernel
theorem dL_law_495 : decode cL_law 495 = .ok (.iaload, 1) := by decide +kernel
theorem dL_law_496 : decode cL_law 496 = .ok (.aload_n 0, 1) := by decide +kernel
theorem dL_law_497 : decode cL_law 497 = .ok (.iload_n 3, 1) := by decide +kernel
theorem dL_law_498 : decode cL_law 498 = .ok (.iconst 3, 1) := by decide +kernel
theorem dL_law_499 : decode cL_law 499 = .ok (.iadd, 1) := by decide +kernel
theorem dL_law_500 : decode cL_law 500 = .ok (.iaload, 1) := by decide +kernel
theorem dL_law_501 : decode cL_law 501 = .ok (.invokevirtual 63, 3) := by decide +kernel
theorem dL_law_504 : decode cL_law 504 = .ok (.if_icmp .eq 308, 3) := by decide +kernel
theorem dL_law_507 : decode cL_law 507 = .ok (.iconst 0, 1) := by decide +kernel
theorem dL_law_508 : decode cL_law 508 = .ok (.ireturn, 1) := by decide +kernel
theorem dL_law_509 : decode cL_law 509 = .ok (.aload_n 1, 1) := by decide +kernel
theorem dL_law_510 : decode cL_law 510 = .ok (.aload_n 0, 1) := by decide +kernel
theorem dL_law_511 : decode cL_law 511 = .ok (.iload_n 3, 1) := by decide +kernel
theorem dL_law_512 : decode cL_law 512 = .ok (.iconst 1, 1) := by decide +kernel
theorem dL_law_513 : decode cL_law 513 = .ok (.iadd, 1) := by decide +kernel
theorem dL_law_514 : decode cL_law 514 = .ok (.iaload, 1) := by decide +kernel
theorem dL_law_515 : decode cL_law 515 = .ok (.aload_n 0, 1) := by decide +kernel
theorem dL_law_516 : decode cL_law 516 = .ok (.iload_n 3, 1) := by decide +kernel
theorem dL_law_517 : decode cL_law 517 = .ok (.iconst 2, 1) := by decide +kernel
theorem dL_law_518 : decode cL_law 518 = .ok (.iadd, 1) := by decide +kernel
theorem dL_law_519 : decode cL_law 519 = .ok (.iaload, 1) := by decide +kernel
theorem dL_law_520 : decode cL_law 520 = .ok (.invokevirtual 64, 3) := by decide +kernel
theorem dL_law_523 : decode cL_law 523 = .ok (.aload_n 2, 1) := by decide +kernel
theorem dL_law_524 : decode cL_law 524 = .ok (.aload_n 0, 1) := by decide +kernel
theorem dL_law_525 : decode cL_law 525 = .ok (.iload_n 3, 1) := by decide +kernel
theorem dL_law_526 : decode cL_law 526 = .ok (.iconst 1, 1) := by decide +kernel
theorem dL_law_527 : decode cL_law 527 = .ok (.iadd, 1) := by decide +kernel
theorem dL_law_528 : decode cL_law 528 = .ok (.iaload, 1) := by decide +kernel
theorem dL_law_529 : decode cL_law 529 = .ok (.aload_n 0, 1) := by decide +kernel
theorem dL_law_530 : decode cL_law 530 = .ok (.iload_n 3, 1) := by decide +kernel
theorem dL_law_531 : decode cL_law 531 = .ok (.iconst 2, 1) := by decide +kernel
theorem dL_law_532 : decode cL_law 532 = .ok (.iadd, 1) := by decide +kernel
theorem dL_law_533 : decode cL_law 533 = .ok (.iaload, 1) := by decide +kernel
theorem dL_law_534 : decode cL_law 534 = .ok (.invokevirtual 67, 3) := by decide +kernel
theorem dL_law_537 : decode cL_law 537 = .ok (.if_icmp .eq 275, 3) := by decide +kernel
theorem dL_law_540 : decode cL_law 540 = .ok (.iconst 0, 1) := by decide +kernel
theorem dL_law_541 : decode cL_law 541 = .ok (.ireturn, 1) := by decide +kernel
theorem dL_law_542 : decode cL_law 542 = .ok (.aload_n 1, 1) := by decide +kernel
theorem dL_law_543 : decode cL_law 543 = .ok (.aload_n 0, 1) := by decide +kernel
theorem dL_law_544 : decode cL_law 544 = .ok (.iload_n 3, 1) := by decide +kernel
theorem dL_law_545 : decode cL_law 545 = .ok (.iconst 1, 1) := by decide +kernel
theorem dL_law_546 : decode cL_law 546 = .ok (.iadd, 1) := by decide +kernel
theorem dL_law_547 : decode cL_law 547 = .ok (.iaload, 1) := by decide +kernel
theorem dL_law_548 : decode cL_law 548 = .ok (.aload_n 0, 1) := by decide +kernel
theorem dL_law_549 : decode cL_law 549 = .ok (.iload_n 3, 1) := by decide +kernel
theorem dL_law_550 : decode cL_law 550 = .ok (.iconst 2, 1) := by decide +kernel
theorem dL_law_551 : decode cL_law 551 = .ok (.iadd, 1) := by decide +kernel
theorem dL_law_552 : decode cL_law 552 = .ok (.iaload, 1) := by decide +kernel
theorem dL_law_553 : decode cL_law 553 = .ok (.aload_n 0, 1) := by decide +kernel
theorem dL_law_554 : decode cL_law 554 = .ok (.iload_n 3, 1) := by decide +kernel
theorem dL_law_555 : decode cL_law 555 = .ok (.iconst 3, 1) := by decide +kernel
theorem dL_law_556 : decode cL_law 556 = .ok (.iadd, 1) := by decide +kernel
theorem dL_law_557 : decode cL_law 557 = .ok (.iaload, 1) := by decide +kernel
theorem dL_law_558 : decode cL_law 558 = .ok (.invokevirtual 68, 3) := by decide +kernel
theorem dL_law_561 : decode cL_law 561 = .ok (.aload_n 2, 1) := by decide +kernel
theorem dL_law_562 : decode cL_law 562 = .ok (.aload_n 0, 1) := by decide +kernel
theorem dL_law_563 : decode cL_law 563 = .ok (.iload_n 3, 1) := by decide +kernel
theorem dL_law_564 : decode cL_law 564 = .ok (.iconst 1, 1) := by decide +kernel
theorem dL_law_565 : decode cL_law 565 = .ok (.iadd, 1) := by decide +kernel
theorem dL_law_566 : decode cL_law 566 = .ok (.iaload, 1) := by decide +kernel
theorem dL_law_567 : decode cL_law 567 = .ok (.aload_n 0, 1) := by decide +kernel
theorem dL_law_568 : decode cL_law 568 = .ok (.iload_n 3, 1) := by decide +kernel
theorem dL_law_569 : decode cL_law 569 = .ok (.iconst 2, 1) := by decide +kernel
theorem dL_law_570 : decode cL_law 570 = .ok (.iadd, 1) := by decide +kernel
theorem dL_law_571 : decode cL_law 571 = .ok (.iaload, 1) := by decide +kernel
theorem dL_law_572 : decode cL_law 572 = .ok (.aload_n 0, 1) := by decide +kernel
theorem dL_law_573 : decode cL_law 573 = .ok (.iload_n 3, 1) := by decide +kernel
theorem dL_law_574 : decode cL_law 574 = .ok (.iconst 3, 1) := by decide +kernel
theorem dL_law_575 : decode cL_law 575 = .ok (.iadd, 1) := by decide +kernel
theorem dL_law_576 : decode cL_law 576 = .ok (.iaload, 1) := by decide +kernel
theorem dL_law_577 : decode cL_law 577 = .ok (.invokevirtual 71, 3) := by decide +kernel
theorem dL_law_580 : decode cL_law 580 = .ok (.if_icmp .eq 232, 3) := by decide +kernel
theorem dL_law_583 : decode cL_law 583 = .ok (.iconst 0, 1) := by decide +kernel
theorem dL_law_584 : decode cL_law 584 = .ok (.ireturn, 1) := by decide +kernel
theorem dL_law_585 : decode cL_law 585 = .ok (.aload_n 1, 1) := by decide +kernel
theorem dL_law_586 : decode cL_law 586 = .ok (.aload_n 0, 1) := by decide +kernel
theorem dL_law_587 : decode cL_law 587 = .ok (.iload_n 3, 1) := by decide +kernel
theorem dL_law_588 : decode cL_law 588 = .ok (.iconst 1, 1) := by decide +kernel
theorem dL_law_589 : decode cL_law 589 = .ok (.iadd, 1) := by decide +kernel
theorem dL_law_590 : decode cL_law 590 = .ok (.iaload, 1) := by decide +kernel
theorem dL_law_591 : decode cL_law 591 = .ok (.aload_n 0, 1) := by decide +kernel
theorem dL_law_592 : decode cL_law 592 = .ok (.iload_n 3, 1) := by decide +kernel
theorem dL_law_593 : decode cL_law 593 = .ok (.iconst 2, 1) := by decide +kernel
theorem dL_law_594 : decode cL_law 594 = .ok (.iadd, 1) := by decide +kernel
theorem dL_law_595 : decode cL_law 595 = .ok (.iaload, 1) := by decide +kernel
theorem dL_law_596 : decode cL_law 596 = .ok (.aload_n 0, 1) := by decide +kernel
theorem dL_law_597 : decode cL_law 597 = .ok (.iload_n 3, 1) := by decide +kernel
theorem dL_law_598 : decode cL_law 598 = .ok (.iconst 3, 1) := by decide +kernel
theorem dL_law_599 : decode cL_law 599 = .ok (.iadd, 1) := by decide +kernel
theorem dL_law_600 : decode cL_law 600 = .ok (.iaload, 1) := by decide +kernel
theorem dL_law_601 : decode cL_law 601 = .ok (.invokevirtual 72, 3) := by decide +kernel
theorem dL_law_604 : decode cL_law 604 = .ok (.aload_n 2, 1) := by decide +kernel
theorem dL_law_605 : decode cL_law 605 = .ok (.aload_n 0, 1) := by decide +kernel
theorem dL_law_606 : decode cL_law 606 = .ok (.iload_n 3, 1) := by decide +kernel
theorem dL_law_607 : decode cL_law 607 = .ok (.iconst 1, 1) := by decide +kernel
theorem dL_law_608 : decode cL_law 608 = .ok (.iadd, 1) := by decide +kernel
theorem dL_law_609 : decode cL_law 609 = .ok (.iaload, 1) := by decide +kernel
theorem dL_law_610 : decode cL_law 610 = .ok (.aload_n 0, 1) := by decide +kernel
theorem dL_law_611 : decode cL_law 611 = .ok (.iload_n 3, 1) := by decide +kernel
theorem dL_law_612 : decode cL_law 612 = .ok (.iconst 2, 1) := by decide +kernel
theorem dL_law_613 : decode cL_law 613 = .ok (.iadd, 1) := by decide +kernel
theorem dL_law_614 : decode cL_law 614 = .ok (.iaload, 1) := by decide +kernel
theorem dL_law_615 : decode cL_law 615 = .ok (.aload_n 0, 1) := by decide +kernel
theorem dL_law_616 : decode cL_law 616 = .ok (.iload_n 3, 1) := by decide +kernel
theorem dL_law_617 : decode cL_law 617 = .ok (.iconst 3, 1) := by decide +kernel
theorem dL_law_618 : decode cL_law 618 = .ok (.iadd, 1) := by decide +kernel
theorem dL_law_619 : decode cL_law 619 = .ok (.iaload, 1) := by decide +kernel
theorem dL_law_620 : decode cL_law 620 = .ok (.invokevirtual 75, 3) := by decide +kernel
theorem dL_law_623 : decode cL_law 623 = .ok (.if_icmp .eq 189, 3) := by decide +kernel
theorem dL_law_626 : decode cL_law 626 = .ok (.iconst 0, 1) := by decide +kernel
theorem dL_law_627 : decode cL_law 627 = .ok (.ireturn, 1) := by decide +kernel
theorem dL_law_628 : decode cL_law 628 = .ok (.aload_n 1, 1) := by decide +kernel
theorem dL_law_629 : decode cL_law 629 = .ok (.aload_n 0, 1) := by decide +kernel
theorem dL_law_630 : decode cL_law 630 = .ok (.iload_n 3, 1) := by decide +kernel
theorem dL_law_631 : decode cL_law 631 = .ok (.iconst 1, 1) := by decide +kernel
theorem dL_law_632 : decode cL_law 632 = .ok (.iadd, 1) := by decide +kernel
theorem dL_law_633 : decode cL_law 633 = .ok (.iaload, 1) := by decide +kernel
theorem dL_law_634 : decode cL_law 634 = .ok (.invokevirtual 76, 3) := by decide +kernel
theorem dL_law_637 : decode cL_law 637 = .ok (.aload_n 2, 1) := by decide +kernel
theorem dL_law_638 : decode cL_law 638 = .ok (.aload_n 0, 1) := by decide +kernel
theorem dL_law_639 : decode cL_law 639 = .ok (.iload_n 3, 1) := by decide +kernel
theorem dL_law_640 : decode cL_law 640 = .ok (.iconst 1, 1) := by decide +kernel
theorem dL_law_641 : decode cL_law 641 = .ok (.iadd, 1) := by decide +kernel
theorem dL_law_642 : decode cL_law 642 = .ok (.iaload, 1) := by decide +kernel
theorem dL_law_643 : decode cL_law 643 = .ok (.invokevirtual 79, 3) := by decide +kernel
theorem dL_law_646 : decode cL_law 646 = .ok (.if_icmp .eq 166, 3) := by decide +kernel
theorem dL_law_649 : decode cL_law 649 = .ok (.iconst 0, 1) := by decide +kernel
theorem dL_law_650 : decode cL_law 650 = .ok (.ireturn, 1) := by decide +kernel
theorem dL_law_651 : decode cL_law 651 = .ok (.aload_n 1, 1) := by decide +kernel
theorem dL_law_652 : decode cL_law 652 = .ok (.aload_n 0, 1) := by decide +kernel
theorem dL_law_653 : decode cL_law 653 = .ok (.iload_n 3, 1) := by decide +kernel
theorem dL_law_654 : decode cL_law 654 = .ok (.iconst 1, 1) := by decide +kernel
theorem dL_law_655 : decode cL_law 655 = .ok (.iadd, 1) := by decide +kernel
theorem dL_law_656 : decode cL_law 656 = .ok (.iaload, 1) := by decide +kernel
theorem dL_law_657 : decode cL_law 657 = .ok (.aload_n 0, 1) := by decide +kernel
theorem dL_law_658 : decode cL_law 658 = .ok (.iload_n 3, 1) := by decide +kernel
theorem dL_law_659 : decode cL_law 659 = .ok (.iconst 2, 1) := by decide +kernel
theorem dL_law_660 : decode cL_law 660 = .ok (.iadd, 1) := by decide +kernel
theorem dL_law_661 : decode cL_law 661 = .ok (.iaload, 1) := by decide +kernel
theorem dL_law_662 : decode cL_law 662 = .ok (.invokevirtual 80, 3) := by decide +kernel
theorem dL_law_665 : decode cL_law 665 = .ok (.aload_n 2, 1) := by decide +kernel
theorem dL_law_666 : decode cL_law 666 = .ok (.aload_n 0, 1) := by decide +kernel
theorem dL_law_667 : decode cL_law 667 = .ok (.iload_n 3, 1) := by decide +kernel
theorem dL_law_668 : decode cL_law 668 = .ok (.iconst 1, 1) := by decide +kernel
theorem dL_law_669 : decode cL_law 669 = .ok (.iadd, 1) := by decide +kernel
theorem dL_law_670 : decode cL_law 670 = .ok (.iaload, 1) := by decide +kernel
theorem dL_law_671 : decode cL_law 671 = .ok (.aload_n 0, 1) := by decide +kernel
theorem dL_law_672 : decode cL_law 672 = .ok (.iload_n 3, 1) := by decide +kernel
theorem dL_law_673 : decode cL_law 673 = .ok (.iconst 2, 1) := by decide +kernel
theorem dL_law_674 : decode cL_law 674 = .ok (.iadd, 1) := by decide +kernel
theorem dL_law_675 : decode cL_law 675 = .ok (.iaload, 1) := by decide +kernel
theorem dL_law_676 : decode cL_law 676 = .ok (.invokevirtual 83, 3) := by decide +kernel
theorem dL_law_679 : decode cL_law 679 = .ok (.if_icmp .eq 133, 3) := by decide +kernel
theorem dL_law_682 : decode cL_law 682 = .ok (.iconst 0, 1) := by decide +kernel
theorem dL_law_683 : decode cL_law 683 = .ok (.ireturn, 1) := by decide +kernel
theorem dL_law_684 : decode cL_law 684 = .ok (.aload_n 1, 1) := by decide +kernel
theorem dL_law_685 : decode cL_law 685 = .ok (.invokevirtual 84, 3) := by decide +kernel
theorem dL_law_688 : decode cL_law 688 = .ok (.aload_n 2, 1) := by decide +kernel
theorem dL_law_689 : decode cL_law 689 = .ok (.invokevirtual 87, 3) := by decide +kernel
theorem dL_law_692 : decode cL_law 692 = .ok (.if_icmp .eq 120, 3) := by decide +kernel
theorem dL_law_695 : decode cL_law 695 = .ok (.iconst 0, 1) := by decide +kernel
theorem dL_law_696 : decode cL_law 696 = .ok (.ireturn, 1) := by decide +kernel
theorem dL_law_697 : decode cL_law 697 = .ok (.aload_n 1, 1) := by decide +kernel
theorem dL_law_698 : decode cL_law 698 = .ok (.invokevirtual 88, 3) := by decide +kernel
theorem dL_law_701 : decode cL_law 701 = .ok (.aload_n 2, 1) := by decide +kernel
theorem dL_law_702 : decode cL_law 702 = .ok (.invokevirtual 91, 3) := by decide +kernel
theorem dL_law_705 : decode cL_law 705 = .ok (.if_icmp .eq 107, 3) := by decide +kernel
theorem dL_law_708 : decode cL_law 708 = .ok (.iconst 0, 1) := by decide +kernel
theorem dL_law_709 : decode cL_law 709 = .ok (.ireturn, 1) := by decide +kernel
theorem dL_law_710 : decode cL_law 710 = .ok (.aload_n 1, 1) := by decide +kernel
theorem dL_law_711 : decode cL_law 711 = .ok (.aload_n 0, 1) := by decide +kernel
theorem dL_law_712 : decode cL_law 712 = .ok (.iload_n 3, 1) := by decide +kernel
theorem dL_law_713 : decode cL_law 713 = .ok (.iconst 1, 1) := by decide +kernel
theorem dL_law_714 : decode cL_law 714 = .ok (.iadd, 1) := by decide +kernel
theorem dL_law_715 : decode cL_law 715 = .ok (.iaload, 1) := by decide +kernel
theorem dL_law_716 : decode cL_law 716 = .ok (.aload_n 0, 1) := by decide +kernel
theorem dL_law_717 : decode cL_law 717 = .ok (.iload_n 3, 1) := by decide +kernel
theorem dL_law_718 : decode cL_law 718 = .ok (.iconst 2, 1) := by decide +kernel
theorem dL_law_719 : decode cL_law 719 = .ok (.iadd, 1) := by decide +kernel
theorem dL_law_720 : decode cL_law 720 = .ok (.iaload, 1) := by decide +kernel
theorem dL_law_721 : decode cL_law 721 = .ok (.invokevirtual 92, 3) := by decide +kernel
theorem dL_law_724 : decode cL_law 724 = .ok (.aload_n 2, 1) := by decide +kernel
theorem dL_law_725 : decode cL_law 725 = .ok (.aload_n 0, 1) := by decide +kernel
theorem dL_law_726 : decode cL_law 726 = .ok (.iload_n 3, 1) := by decide +kernel
theorem dL_law_727 : decode cL_law 727 = .ok (.iconst 1, 1) := by decide +kernel
theorem dL_law_728 : decode cL_law 728 = .ok (.iadd, 1) := by decide +kernel
theorem dL_law_729 : decode cL_law 729 = .ok (.iaload, 1) := by decide +kernel
theorem dL_law_730 : decode cL_law 730 = .ok (.aload_n 0, 1) := by decide +kernel
theorem dL_law_731 : decode cL_law 731 = .ok (.iload_n 3, 1) := by decide +kernel
theorem dL_law_732 : decode cL_law 732 = .ok (.iconst 2, 1) := by decide +kernel
theorem dL_law_733 : decode cL_law 733 = .ok (.iadd, 1) := by decide +kernel
theorem dL_law_734 : decode cL_law 734 = .ok (.iaload, 1) := by decide +kernel
theorem dL_law_735 : decode cL_law 735 = .ok (.invokevirtual 95, 3) := by decide +kernel
theorem dL_law_738 : decode cL_law 738 = .ok (.if_icmp .eq 74, 3) := by decide +kernel
theorem dL_law_741 : decode cL_law 741 = .ok (.iconst 0, 1) := by decide +kernel
theorem dL_law_742 : decode cL_law 742 = .ok (.ireturn, 1) := by decide +kernel
theorem dL_law_743 : decode cL_law 743 = .ok (.aload_n 1, 1) := by decide +kernel
theorem dL_law_744 : decode cL_law 744 = .ok (.aload_n 0, 1) := by decide +kernel
theorem dL_law_745 : decode cL_law 745 = .ok (.iload_n 3, 1) := by decide +kernel
theorem dL_law_746 : decode cL_law 746 = .ok (.iconst 1, 1) := by decide +kernel
theorem dL_law_747 : decode cL_law 747 = .ok (.iadd, 1) := by decide +kernel
theorem dL_law_748 : decode cL_law 748 = .ok (.iaload, 1) := by decide +kernel
theorem dL_law_749 : decode cL_law 749 = .ok (.invokevirtual 96, 3) := by decide +kernel
theorem dL_law_752 : decode cL_law 752 = .ok (.aload_n 2, 1) := by decide +kernel
theorem dL_law_753 : decode cL_law 753 = .ok (.aload_n 0, 1) := by decide +kernel
theorem dL_law_754 : decode cL_law 754 = .ok (.iload_n 3, 1) := by decide +kernel
theorem dL_law_755 : decode cL_law 755 = .ok (.iconst 1, 1) := by decide +kernel
theorem dL_law_756 : decode cL_law 756 = .ok (.iadd, 1) := by decide +kernel
theorem dL_law_757 : decode cL_law 757 = .ok (.iaload, 1) := by decide +kernel
theorem dL_law_758 : decode cL_law 758 = .ok (.invokevirtual 99, 3) := by decide +kernel
theorem dL_law_761 : decode cL_law 761 = .ok (.if_icmp .eq 51, 3) := by decide +kernel
theorem dL_law_764 : decode cL_law 764 = .ok (.iconst 0, 1) := by decide +kernel
theorem dL_law_765 : decode cL_law 765 = .ok (.ireturn, 1) := by decide +kernel
theorem dL_law_766 : decode cL_law 766 = .ok (.aload_n 1, 1) := by decide +kernel
theorem dL_law_767 : decode cL_law 767 = .ok (.aload_n 0, 1) := by decide +kernel
theorem dL_law_768 : decode cL_law 768 = .ok (.iload_n 3, 1) := by decide +kernel
theorem dL_law_769 : decode cL_law 769 = .ok (.iconst 1, 1) := by decide +kernel
theorem dL_law_770 : decode cL_law 770 = .ok (.iadd, 1) := by decide +kernel
theorem dL_law_771 : decode cL_law 771 = .ok (.iaload, 1) := by decide +kernel
theorem dL_law_772 : decode cL_law 772 = .ok (.invokevirtual 100, 3) := by decide +kernel
theorem dL_law_775 : decode cL_law 775 = .ok (.aload_n 2, 1) := by decide +kernel
theorem dL_law_776 : decode cL_law 776 = .ok (.aload_n 0, 1) := by decide +kernel
theorem dL_law_777 : decode cL_law 777 = .ok (.iload_n 3, 1) := by decide +kernel
theorem dL_law_778 : decode cL_law 778 = .ok (.iconst 1, 1) := by decide +kernel
theorem dL_law_779 : decode cL_law 779 = .ok (.iadd, 1) := by decide +kernel
theorem dL_law_780 : decode cL_law 780 = .ok (.iaload, 1) := by decide +kernel
theorem dL_law_781 : decode cL_law 781 = .ok (.invokevirtual 103, 3) := by decide +kernel
theorem dL_law_784 : decode cL_law 784 = .ok (.if_icmp .eq 28, 3) := by decide +kernel
theorem dL_law_787 : decode cL_law 787 = .ok (.iconst 0, 1) := by decide +kernel
theorem dL_law_788 : decode cL_law 788 = .ok (.ireturn, 1) := by decide +kernel
theorem dL_law_789 : decode cL_law 789 = .ok (.aload_n 1, 1) := by decide +kernel
theorem dL_law_790 : decode cL_law 790 = .ok (.aload_n 0, 1) := by decide +kernel
theorem dL_law_791 : decode cL_law 791 = .ok (.iload_n 3, 1) := by decide +kernel
theorem dL_law_792 : decode cL_law 792 = .ok (.iconst 1, 1) := by decide +kernel
theorem dL_law_793 : decode cL_law 793 = .ok (.iadd, 1) := by decide +kernel
theorem dL_law_794 : decode cL_law 794 = .ok (.iaload, 1) := by decide +kernel
theorem dL_law_795 : decode cL_law 795 = .ok (.invokevirtual 104, 3) := by decide +kernel
theorem dL_law_798 : decode cL_law 798 = .ok (.aload_n 2, 1) := by decide +kernel
theorem dL_law_799 : decode cL_law 799 = .ok (.aload_n 0, 1) := by decide +kernel
theorem dL_law_800 : decode cL_law 800 = .ok (.iload_n 3, 1) := by decide +kernel
theorem dL_law_801 : decode cL_law 801 = .ok (.iconst 1, 1) := by decide +kernel
theorem dL_law_802 : decode cL_law 802 = .ok (.iadd, 1) := by decide +kernel
theorem dL_law_803 : decode cL_law 803 = .ok (.iaload, 1) := by decide +kernel
theorem dL_law_804 : decode cL_law 804 = .ok (.invokevirtual 107, 3) := by decide +kernel
theorem dL_law_807 : decode cL_law 807 = .ok (.if_icmp .eq 5, 3) := by decide +kernel
theorem dL_law_810 : decode cL_law 810 = .ok (.iconst 0, 1) := by decide +kernel
theorem dL_law_811 : decode cL_law 811 = .ok (.ireturn, 1) := by decide +kernel
theorem dL_law_812 : decode cL_law 812 = .ok (.iinc 3 6, 3) := by decide +kernel
theorem dL_law_815 : decode cL_law 815 = .ok (.goto (-797), 3) := by decide +kernel
theorem dL_law_818 : decode cL_law 818 = .ok (.iconst 1, 1) := by decide +kernel
theorem dL_law_819 : decode cL_law 819 = .ok (.ireturn, 1) := by decide +kernel
end
section
/-! my own layer: a world of ROLES. An abstract heap G gives ints, longs and references by (role, slot); ad gives a role's address -/
abbrev gS : Type := (Nat → Nat → Int32) × (Nat → Nat → Int64) × (Nat → Nat → Nat)
def sI (G : gS) (r k : Nat) (v : Int32) : gS := (fun a => if a = r then upd (G.1 r) k v else G.1 a, G.2)
def sL (G : gS) (r k : Nat) (v : Int64) : gS := (G.1, fun a => if a = r then vp_updL (G.2.1 r) k v else G.2.1 a, G.2.2)
def sR (G : gS) (r k : Nat) (v : Nat) : gS := (G.1, G.2.1, fun a => if a = r then va_up (G.2.2 r) k v else G.2.2 a)
abbrev gH : Type := Nat → Nat × Nat × Nat × (Nat → Nat × Nat)
abbrev gU : Type := List Nat × gH
abbrev gY : Type := va_G × (Nat → Nat) × (Nat → ClassId) × gU
def gv (ad : Nat → Nat) (G : gS) (r k : Nat) (f : Nat × Nat) : Value := if f.1 = 0 then .int (G.1 r k) else if f.1 = 1 then .ref (ad f.2) else .ref (ad (G.2.2 r k))
def gq (ad : Nat → Nat) (G : gS) (r : Nat) (fs : Nat → Nat × Nat) (k : Nat) : Option Nat := some (ad (if (fs k).1 = 1 then (fs k).2 else G.2.2 r k))
def gc (ad : Nat → Nat) (cA : Nat → ClassId) (h : Nat × Nat × Nat × (Nat → Nat × Nat)) (G : gS) (r : Nat) : va_E :=
  if h.1 = 0 then .inr (h.2.1, (List.range h.2.2.1).map (fun k => gv ad G r k (h.2.2.2 k)))
  else if h.1 = 1 then .inl (cA h.2.1, h.2.2.1, .inl (G.1 r))
  else if h.1 = 2 then .inl (cA h.2.1, h.2.2.1, .inr (.inl (G.2.1 r)))
  else .inl (cA h.2.1, h.2.2.1, .inr (.inr (.inr (.inr (gq ad G r h.2.2.2)))))
def gw (Y : gY) (G : gS) : va_W := Y.2.2.2.1.map (fun r => (Y.2.1 r, gc Y.2.1 Y.2.2.1 (Y.2.2.2.2 r) G r))
def gT (cA : Nat → ClassId) : List (ClassId × FieldType) := [(cA 0, .int), (cA 1, .boolean), (cA 2, .byte), (cA 3, .long), (cA 4, .object "BootHall$Machine"), (cA 5, .object "BootHall$Rules")]
theorem gw_at {Y : gY} {G : gS} {q r : Nat} (h : Y.2.2.2.1[q]? = some r) : (gw Y G)[q]? = some (Y.2.1 r, gc Y.2.1 Y.2.2.1 (Y.2.2.2.2 r) G r) := by
  rw [gw, List.getElem?_map, h]; rfl
theorem gw_ix {Y : gY} {r : Nat} (h : r ∈ Y.2.2.2.1) : ∃ q : Nat, Y.2.2.2.1[q]? = some r := List.getElem?_of_mem h
theorem gw_D {Y : gY} {G G' : gS} {A : Nat → Prop} (h : va_D A (gw Y G)) : va_D A (gw Y G') := by
  have key : ∀ (k : Nat) (p : Nat × va_E), (gw Y G')[k]? = some p → ∃ e, (gw Y G)[k]? = some (p.1, e) := by
    intro k p hp
    rw [gw, List.getElem?_map] at hp
    cases hk : Y.2.2.2.1[k]? with
    | none => rw [hk] at hp; cases hp
    | some r =>
      rw [hk] at hp
      cases hp
      exact ⟨_, gw_at hk⟩
  refine ⟨fun i j p q hi hj e => ?_, fun k q hk => ?_⟩
  · obtain ⟨e1, h1⟩ := key i p hi
    obtain ⟨e2, h2⟩ := key j q hj
    exact h.1 i j _ _ h1 h2 e
  · obtain ⟨e1, h1⟩ := key k q hk
    exact h.2 k (q.1, e1) h1
theorem gw_inj {Y : gY} {G : gS} {A : Nat → Prop} (h : va_D A (gw Y G)) {i j r : Nat} (hi : Y.2.2.2.1[i]? = some r) (hj : Y.2.2.2.1[j]? = some r) : i = j := h.1 i j _ _ (gw_at hi) (gw_at hj) rfl
theorem gw_set {Y : gY} {G G' : gS} {A : Nat → Prop} (hD : va_D A (gw Y G)) {q r : Nat} (hq : Y.2.2.2.1[q]? = some r) {e : va_E} (he : gc Y.2.1 Y.2.2.1 (Y.2.2.2.2 r) G' r = e) (ho : ∀ r', r' ≠ r → gc Y.2.1 Y.2.2.1 (Y.2.2.2.2 r') G' r' = gc Y.2.1 Y.2.2.1 (Y.2.2.2.2 r') G r') : (gw Y G).set q (Y.2.1 r, e) = gw Y G' := by
  apply List.ext_getElem?
  intro k
  rw [List.getElem?_set]
  by_cases hk : q = k
  · subst hk
    have hl : q < (gw Y G).length := by
      have := gw_at (G := G) hq
      exact (List.getElem?_eq_some_iff.mp this).1
    rw [if_pos rfl, if_pos hl, gw_at hq, he]
  · rw [if_neg hk]
    cases h2 : Y.2.2.2.1[k]? with
    | none => rw [gw, gw, List.getElem?_map, List.getElem?_map, h2]; rfl
    | some r' =>
      rw [gw_at h2, gw_at h2]
      have hne : r' ≠ r := fun e => hk (gw_inj hD hq (e ▸ h2))
      rw [ho r' hne]
theorem sI_o {G : gS} {r k : Nat} {v : Int32} {r' : Nat} (h : r' ≠ r) : (sI G r k v).1 r' = G.1 r' := if_neg h
theorem sI_s {G : gS} {r k : Nat} {v : Int32} : (sI G r k v).1 r = upd (G.1 r) k v := if_pos rfl
theorem sL_o {G : gS} {r k : Nat} {v : Int64} {r' : Nat} (h : r' ≠ r) : (sL G r k v).2.1 r' = G.2.1 r' := if_neg h
theorem sL_s {G : gS} {r k : Nat} {v : Int64} : (sL G r k v).2.1 r = vp_updL (G.2.1 r) k v := if_pos rfl
theorem sR_o {G : gS} {r k v : Nat} {r' : Nat} (h : r' ≠ r) : (sR G r k v).2.2 r' = G.2.2 r' := if_neg h
theorem sR_s {G : gS} {r k v : Nat} : (sR G r k v).2.2 r = va_up (G.2.2 r) k v := if_pos rfl
theorem gc_sI {ad : Nat → Nat} {cA : Nat → ClassId} {h : Nat × Nat × Nat × (Nat → Nat × Nat)} {G : gS} {r k : Nat} {v : Int32} {r' : Nat} (hr : r' ≠ r) : gc ad cA h (sI G r k v) r' = gc ad cA h G r' := by
  simp only [gc, gv, gq, sI_o hr]; rfl
theorem gc_sL {ad : Nat → Nat} {cA : Nat → ClassId} {h : Nat × Nat × Nat × (Nat → Nat × Nat)} {G : gS} {r k : Nat} {v : Int64} {r' : Nat} (hr : r' ≠ r) : gc ad cA h (sL G r k v) r' = gc ad cA h G r' := by
  simp only [gc, gv, gq, sL_o hr]; rfl
theorem gc_sR {ad : Nat → Nat} {cA : Nat → ClassId} {h : Nat × Nat × Nat × (Nat → Nat × Nat)} {G : gS} {r k v : Nat} {r' : Nat} (hr : r' ≠ r) : gc ad cA h (sR G r k v) r' = gc ad cA h G r' := by
  have h3 : ∀ fs, gq ad (sR G r k v) r' fs = gq ad G r' fs := fun fs => by funext j; simp only [gq, sR_o hr]
  simp only [gc, gv, sR_o hr, h3]; rfl
/-! locals as a list by their numbers -/
def prs : Nat → List (Option Value) → List (Nat × Value)
  | _, [] => []
  | i, none :: t => prs (i + 1) t
  | i, some v :: t => (i, v) :: prs (i + 1) t
theorem prs_mem : ∀ (ls : List (Option Value)) (i j : Nat) (v : Value), (j, v) ∈ prs i ls ↔ i ≤ j ∧ ls[j - i]? = some (some v)
  | [], i, j, v => by simp [prs]
  | none :: t, i, j, v => by
    rw [prs, prs_mem t (i + 1) j v]
    by_cases h : j = i
    · subst h; simp; omega
    · constructor
      · rintro ⟨h1, h2⟩
        refine ⟨by omega, ?_⟩
        rw [show j - i = (j - (i + 1)) + 1 by omega, List.getElem?_cons_succ]; exact h2
      · rintro ⟨h1, h2⟩
        refine ⟨by omega, ?_⟩
        rw [show j - i = (j - (i + 1)) + 1 by omega, List.getElem?_cons_succ] at h2; exact h2
  | some w :: t, i, j, v => by
    rw [prs, List.mem_cons, prs_mem t (i + 1) j v]
    by_cases h : j = i
    · subst h
      rw [Nat.sub_self, List.getElem?_cons_zero]
      constructor
      · rintro (h1 | ⟨h1, -⟩)
        · cases h1; exact ⟨Nat.le_refl _, rfl⟩
        · omega
      · rintro ⟨-, h1⟩
        cases h1; exact Or.inl rfl
    · constructor
      · rintro (h1 | ⟨h1, h2⟩)
        · exact absurd (congrArg Prod.fst h1) h
        · refine ⟨by omega, ?_⟩
          rw [show j - i = (j - (i + 1)) + 1 by omega, List.getElem?_cons_succ]; exact h2
      · rintro ⟨h1, h2⟩
        refine Or.inr ⟨by omega, ?_⟩
        rw [show j - i = (j - (i + 1)) + 1 by omega, List.getElem?_cons_succ] at h2; exact h2
def lh (la : Array Slot) (ls : List (Option Value)) : Prop := lv_has la ls.length (prs 0 ls)
theorem lh_at {la : Array Slot} {ls : List (Option Value)} (h : lh la ls) {i : Nat} {v : Value} (hi : ls[i]? = some (some v)) : la[i]? = some (.val v) := h.2.2 (i, v) ((prs_mem ls 0 i v).mpr ⟨Nat.zero_le _, hi⟩)
def c1 (o : Option Value) : Bool := match o with
  | none => true
  | some v => v.category == 1
theorem lh_s1 {la : Array Slot} {ls : List (Option Value)} {i : Nat} {v : Value} (h : lv_has la ls.length ((i, v) :: (prs 0 ls).filter (fun q => !(q.1 == i) && !(q.1 + 1 == i && q.2.category == 2)))) (hc : ∀ j w, j + 1 = i → ls[j]? = some w → c1 w = true) : lh la (ls.set i (some v)) := by
  obtain ⟨h1, h2, h3⟩ := h
  refine ⟨by rw [List.length_set]; exact h1, h2, ?_⟩
  rintro ⟨j, w⟩ hq
  obtain ⟨-, hj⟩ := (prs_mem _ 0 j w).mp hq
  rw [Nat.sub_zero, List.getElem?_set] at hj
  by_cases e : i = j
  · subst e
    rw [if_pos rfl] at hj
    split at hj
    · cases hj; exact h3 _ List.mem_cons_self
    · cases hj
  · rw [if_neg e] at hj
    refine h3 _ (List.mem_cons_of_mem _ (List.mem_filter.mpr ⟨(prs_mem _ 0 j w).mpr ⟨Nat.zero_le _, hj⟩, ?_⟩))
    have e1 : (j == i) = false := by simpa using fun z => e z.symm
    by_cases e2 : j + 1 = i
    · have := hc j (some w) e2 hj
      have e3 : w.category = 1 := by simpa [c1] using this
      simp [e1, e3]
    · simp [e1, e2]
theorem lh_s2 {la : Array Slot} {ls : List (Option Value)} {i : Nat} {v : Value} (h : lv_has la ls.length ((i, v) :: (prs 0 ls).filter (fun q => !(q.1 == i) && (!(q.1 == i + 1) && !(q.1 + 1 == i && q.2.category == 2))))) (hc : ∀ j w, j + 1 = i → ls[j]? = some w → c1 w = true) : lh la ((ls.set i (some v)).set (i + 1) none) := by
  obtain ⟨h1, h2, h3⟩ := h
  refine ⟨by rw [List.length_set, List.length_set]; exact h1, h2, ?_⟩
  rintro ⟨j, w⟩ hq
  obtain ⟨-, hj⟩ := (prs_mem _ 0 j w).mp hq
  rw [Nat.sub_zero, List.getElem?_set] at hj
  by_cases e0 : i + 1 = j
  · rw [if_pos e0] at hj
    split at hj <;> cases hj
  rw [if_neg e0, List.getElem?_set] at hj
  by_cases e : i = j
  · subst e
    rw [if_pos rfl] at hj
    split at hj
    · cases hj; exact h3 _ List.mem_cons_self
    · cases hj
  · rw [if_neg e] at hj
    refine h3 _ (List.mem_cons_of_mem _ (List.mem_filter.mpr ⟨(prs_mem _ 0 j w).mpr ⟨Nat.zero_le _, hj⟩, ?_⟩))
    have e1 : (j == i) = false := by simpa using fun z => e z.symm
    have e4 : (j == i + 1) = false := by simpa using fun z => e0 z.symm
    by_cases e2 : j + 1 = i
    · have := hc j (some w) e2 hj
      have e3 : w.category = 1 := by simpa [c1] using this
      simp [e1, e3, e4]
    · simp [e1, e2, e4]
/-! the words: those of lw_tbl that stay good; and the words of nest mates beside them -/
def lw_g : List Cond := lw_tbl.filter goodWord
theorem lw_m {w : Cond} (i : Nat) (h : lw_tbl[i]? = some w) (hg : goodWord w = true) : w ∈ lw_g := List.mem_filter.mpr ⟨List.mem_of_getElem? h, hg⟩
theorem lw_gg {y : MethodName} {b : ByteArray} {n : Nat} {rt : Option FieldType} (h : Cond.code y b n rt ∈ lw_g) : GoodIn lw_g (Cond.code y b n rt :: lw_g) := by
  intro w hw
  have hm : w ∈ lw_g := (List.mem_cons.mp hw).elim (fun e => e ▸ h) id
  exact ⟨hm, good_of_word (List.mem_filter.mp hm).2⟩
def gNF : List (String × Nat × String × String) := [("BootHall$Scanner", 56, "WORDS", "[J"), ("BootHall$Scanner", 60, "WORD_SORTS", "[I"), ("BootHall$Scanner", 63, "WORD_VALUES", "[I"), ("BootHall$Reader", 121, "OPERATOR_RANKS", "[I"), ("BootHall$Run", 234, "SHIFTS", "[I")]
def gNw (U : State) : Prop := (∀ q ∈ gNF, va_Nw (.fieldLinkNest q.1 q.2.1 "BootHall" q.2.2.1 q.2.2.2 "BootHall") U) ∧ va_Nw (.methodLinkNest "BootHall$Hall" 61 ⟨"BootHall", "isBelow", "(II)Z"⟩ "BootHall") U
theorem gNw.warm {s U : State} (hW : s.WarmedH U.vm) (h : gNw s) : gNw U := ⟨fun q hq => (h.1 q hq).warmF hW, h.2.warmM hW⟩
def tWd : List Int64 := [1718185061, 418330731890, 26982, 28530, 6385252, 1802071652, 482854658917, 1835102827, 500135716211, 6447460, 422608074094, 1953063787]
def tWs : List Int32 := [4, 5, 6, 7, 7, 3, 3, 3, 3, 3, 3, 3]
def tWv : List Int32 := [0, 0, 0, 1, 2, 0, 1, 2, 3, 4, 5, 6]
def tOr : List Int32 := [0, 1, 2, 3, 3, 3, 3, 4, 4, 5]
def tSh : List Int32 := [0, 4, 8, 12, 16, 20, 24, 28, 32, 40, 44]
/-- a static row of ints (longs): where it is, what it holds; no method writes it -/
def gZi (n : String) (f : List Int32) (A : Nat → Prop) (U : State) (H : Heap) : Prop := ∃ t : Nat, va_Z "BootHall" n "[I" (.ref t) A U H ∧ va_T .int t f.length (fun j => .int (f.getD j 0)) A U H
def gZl (n : String) (f : List Int64) (A : Nat → Prop) (U : State) (H : Heap) : Prop := ∃ t : Nat, va_Z "BootHall" n "[J" (.ref t) A U H ∧ va_T .long t f.length (fun j => .long (f.getD j 0)) A U H
def gZ (A : Nat → Prop) (U : State) (H : Heap) : Prop := gZl "WORDS" tWd A U H ∧ gZi "WORD_SORTS" tWs A U H ∧ gZi "WORD_VALUES" tWv A U H ∧ gZi "OPERATOR_RANKS" tOr A U H ∧ gZi "SHIFTS" tSh A U H
theorem gZi.to {n : String} {f : List Int32} {A B : Nat → Prop} {s U : State} {H : Heap} (h : gZi n f A s s.heap) (hvm : s.vm.Alike U.vm) (hq : ∀ a : Nat, a < s.heap.size → ¬ A a → H[a]? = s.heap[a]?) (hAB : ∀ q, B q → A q) : gZi n f B U H := by
  obtain ⟨t, h1, h2⟩ := h
  exact ⟨t, ((h1.kept hq).narrow hAB).moved hvm, ((h2.kept hq).narrow hAB).moved hvm⟩
theorem gZl.to {n : String} {f : List Int64} {A B : Nat → Prop} {s U : State} {H : Heap} (h : gZl n f A s s.heap) (hvm : s.vm.Alike U.vm) (hq : ∀ a : Nat, a < s.heap.size → ¬ A a → H[a]? = s.heap[a]?) (hAB : ∀ q, B q → A q) : gZl n f B U H := by
  obtain ⟨t, h1, h2⟩ := h
  exact ⟨t, ((h1.kept hq).narrow hAB).moved hvm, ((h2.kept hq).narrow hAB).moved hvm⟩
theorem gZ.to {A B : Nat → Prop} {s U : State} {H : Heap} (h : gZ A s s.heap) (hvm : s.vm.Alike U.vm) (hq : ∀ a : Nat, a < s.heap.size → ¬ A a → H[a]? = s.heap[a]?) (hAB : ∀ q, B q → A q) : gZ B U H := ⟨h.1.to hvm hq hAB, h.2.1.to hvm hq hAB, h.2.2.1.to hvm hq hAB, h.2.2.2.1.to hvm hq hAB, h.2.2.2.2.to hvm hq hAB⟩
/-! a method's start, end and contract, over the whole world of Y -/
def gP (Y : gY) (G : gS) (sz : Nat) (U : State) : Prop := U.heap.size = sz ∧ va_P Y.1 vwCl (gw Y G) U.heap ∧ va_K Y.1 vwCl (gT Y.2.2.1) U ∧ va_D (fun _ => True) (gw Y G) ∧ gZ (va_A (gw Y G) sz) U U.heap ∧ gNw U
def gQ (Y : gY) (A : Nat → Prop) (post : Option Value → gS → Prop) : Array Value → State → Outcome → State → Prop := fun _ st oc t => (∃ (v : Option Value) (G : gS), oc = .returned v ∧ post v G ∧ va_P Y.1 vwCl (gw Y G) t.heap) ∧ va_F A st t
def gM (Y : gY) (l : Launch) (y : MethodName) (cc : ByteArray) (nL : Nat) (ret : Option FieldType) (rm : Nat × Nat) (av : List Value) (G : gS) (post : Option Value → gS → Prop) : Prop :=
  ∀ sz : Nat, Met l y (.code y cc nL ret :: lw_g) { frames := rm.1, cells := 0, slots := 0, locals := rm.2 } (va_Pc av (gP Y G sz)) (gQ Y (va_A (gw Y G) sz) post) 0 0 (va_A (gw Y G) sz)
abbrev gX : Type := Program × Launch × Env × State × MethodId × Array Value × List Frame × Method × Code
abbrev gO : Type := gY × gX × (Nat × Nat) × (Nat → Prop)
abbrev ad (Z : gO) : Nat → Nat := Z.1.2.1
/-- the machine, at pc with locals ls, stack st and the abstract heap G, comes to the method's end with post -/
def WW (Z : gO) (post : Option Value → gS → Prop) (pc : Nat) (ls : List (Option Value)) (st : List Value) (G : gS) : Prop :=
  match Z with
  | (Y, (p, l, e, s, m, args, below, meth, c), rm, A) => ∀ (H : Heap) (locs : List Loc) (la : Array Slot), va_P Y.1 vwCl (gw Y G) H → va_S A s.heap H locs → lh la ls →
    W p l e { frames := rm.1, cells := 0, slots := 0, locals := rm.2 } s m args below meth c H locs 0 0 (MQ below (gQ Y A post) args s 0 0 A) (F0 m pc la st)
/-- what holds all through a method: its bytes, class, answer's type, locals, room; which world -/
def gC (Z : gO) (w : gU) (cc : ByteArray) (own : String) (ret : Option FieldType) (nL : Nat) (rm : Nat × Nat) : Prop :=
  match Z with
  | (Y, (p, l, e, s, m, args, below, meth, c), rm0, A) => (p.tables.exec = Jvm.exec ∧ c.code = cc) ∧ (meth.sig.returnType = ret ∧ meth.locks = false) ∧ (c.maxLocals = nL ∧ s.vm.findClass own = some m.cls) ∧ (∀ w ∈ lw_g, w.before args s = true) ∧ va_K Y.1 vwCl (gT Y.2.2.1) s ∧ (∀ G, va_D A (gw Y G)) ∧ (∀ q, s.heap.size ≤ q → A q) ∧ Y.2.2.2 = w ∧ rm0 = rm ∧ gZ A s s.heap ∧ gNw s
theorem gM_of {w : gU} {Y : gY} {l : Launch} {y : MethodName} {cc : ByteArray} {nL : Nat} {ret : Option FieldType} {rm : Nat × Nat} {av : List Value} {G : gS} {post : Option Value → gS → Prop} (hw : Y.2.2.2 = w) (hy : plainName y.cls = true) (hn : (lg_sl av).length ≤ nL)
    (ls : List (Option Value)) (hls : ls.length = nL) (hlv : prs 0 ls = lv_args 0 av)
    (body : ∀ Z : gO, Z.1 = Y → gC Z w cc y.cls ret nL rm → WW Z post 0 ls [] G) : gM Y l y cc nL ret rm av G post := by
  intro sz
  refine Met.ofW (cc := cc) (maxL := nL) (ret := ret) hy rfl ?_
  intro p e s m args below meth c s₁ B hml hv
  obtain ⟨rfl, hsz, hP, hK, hD0, hZ, hN⟩ := hv
  have hts := atoms_spec (ws := .code y cc nL ret :: lw_g) B.pre
  have hown : s.vm.findClass y.cls = some m.cls := findClass_of_methodNamed B.named
  subst hsz
  have hD := hD0.self (sz := s.heap.size)
  generalize hAe : va_A (gw Y G) s.heap.size = A at hD hZ ⊢
  have hA : ∀ q : Nat, s.heap.size ≤ q → A q := fun q h => by rw [← hAe]; exact Or.inr h
  have hS : va_S A s.heap s.heap [] := va_S.rf
  have hl := lv_entry av (n := nL) hn
  rw [lg_entry_eq]
  generalize (lg_sl av ++ List.replicate (nL - (lg_sl av).length) Slot.unset).toArray = la at hl ⊢
  have hl : lh la ls := by rw [lh, hls, hlv]; exact hl
  exact body (Y, (p, l, e, s, m, av.toArray, below, meth, c), rm, A) rfl ⟨⟨B.exec, B.bytes⟩, ⟨B.returns, B.notSynchronized⟩, ⟨hml, hown⟩, fun w hw => hts w (List.mem_cons_of_mem _ hw), hK, fun G' => gw_D hD, hA, hw, rfl, hZ, hN⟩ s.heap [] la hP hS hl
theorem gC.w {Z : gO} {w : gU} {cc : ByteArray} {own : String} {ret : Option FieldType} {nL : Nat} {rm : Nat × Nat} (C : gC Z w cc own ret nL rm) : Z.1.2.2.2 = w := by
  obtain ⟨Y, ⟨p, l, e, s, m, args, below, meth, c⟩, rm0, A⟩ := Z
  obtain ⟨-, -, -, -, -, -, -, hw, -⟩ := C
  exact hw
section R
variable {Z : gO} {w : gU} {cc : ByteArray} {own : String} {ret : Option FieldType} {nL : Nat} {rm : Nat × Nat} {post : Option Value → gS → Prop} {pc : Nat} {ls : List (Option Value)} {st : List Value} {G : gS}
theorem r_eqi {x y : Int32} (h : x = y) (k : WW Z post pc ls (.int y :: st) G) : WW Z post pc ls (.int x :: st) G := h ▸ k
theorem r_eql {x y : Int64} (h : x = y) (k : WW Z post pc ls (.long y :: st) G) : WW Z post pc ls (.long x :: st) G := h ▸ k
theorem r_topi {x : Int32} (k : ∀ y, y = x → WW Z post pc ls (.int y :: st) G) : WW Z post pc ls (.int x :: st) G := k x rfl
theorem r_topl {x : Int64} (k : ∀ y, y = x → WW Z post pc ls (.long y :: st) G) : WW Z post pc ls (.long x :: st) G := k x rfl
theorem r_G {G' : gS} (h : G = G') (k : WW Z post pc ls st G') : WW Z post pc ls st G := h ▸ k

theorem r_iconst {n : Int} {v : Int32} (C : gC Z w cc own ret nL rm) (d : decode cc pc = .ok (.iconst n, 1)) (hv : Int32.ofInt n = v) (k : WW Z post (pc + 1) ls (.int v :: st) G) : WW Z post pc ls (st) G := by
  obtain ⟨Y, ⟨p, l, e, s, m, args, below, meth, c⟩, rm0, A⟩ := Z
  obtain ⟨⟨hx, hb⟩, -⟩ := C
  exact fun H locs la hP hS hl => lv_iconst hx hb d hv (k H locs la hP hS hl)
theorem r_bipush {n : Int} {v : Int32} (C : gC Z w cc own ret nL rm) (d : decode cc pc = .ok (.bipush n, 2)) (hv : (Int8.ofInt n).toInt32 = v) (k : WW Z post (pc + 2) ls (.int v :: st) G) : WW Z post pc ls (st) G := by
  obtain ⟨Y, ⟨p, l, e, s, m, args, below, meth, c⟩, rm0, A⟩ := Z
  obtain ⟨⟨hx, hb⟩, -⟩ := C
  exact fun H locs la hP hS hl => lv_bipush hx hb d hv (k H locs la hP hS hl)
theorem r_sipush {n : Int} {v : Int32} (C : gC Z w cc own ret nL rm) (d : decode cc pc = .ok (.sipush n, 3)) (hv : (Int16.ofInt n).toInt32 = v) (k : WW Z post (pc + 3) ls (.int v :: st) G) : WW Z post pc ls (st) G := by
  obtain ⟨Y, ⟨p, l, e, s, m, args, below, meth, c⟩, rm0, A⟩ := Z
  obtain ⟨⟨hx, hb⟩, -⟩ := C
  exact fun H locs la hP hS hl => lv_sipush hx hb d hv (k H locs la hP hS hl)
theorem r_lconst {n : Fin 2} {v : Int64} (C : gC Z w cc own ret nL rm) (d : decode cc pc = .ok (.lconst n, 1)) (hv : Int64.ofNat (n : Nat) = v) (k : WW Z post (pc + 1) ls (.long v :: st) G) : WW Z post pc ls (st) G := by
  obtain ⟨Y, ⟨p, l, e, s, m, args, below, meth, c⟩, rm0, A⟩ := Z
  obtain ⟨⟨hx, hb⟩, -⟩ := C
  exact fun H locs la hP hS hl => lv_lconst hx hb d hv (k H locs la hP hS hl)
theorem r_iadd {x y : Int32} (C : gC Z w cc own ret nL rm) (d : decode cc pc = .ok (.iadd, 1)) (k : WW Z post (pc + 1) ls (.int (x + y) :: st) G) : WW Z post pc ls (.int y :: .int x :: st) G := by
  obtain ⟨Y, ⟨p, l, e, s, m, args, below, meth, c⟩, rm0, A⟩ := Z
  obtain ⟨⟨hx, hb⟩, -⟩ := C
  exact fun H locs la hP hS hl => lv_iadd hx hb d (k H locs la hP hS hl)
theorem r_isub {x y : Int32} (C : gC Z w cc own ret nL rm) (d : decode cc pc = .ok (.isub, 1)) (k : WW Z post (pc + 1) ls (.int (x - y) :: st) G) : WW Z post pc ls (.int y :: .int x :: st) G := by
  obtain ⟨Y, ⟨p, l, e, s, m, args, below, meth, c⟩, rm0, A⟩ := Z
  obtain ⟨⟨hx, hb⟩, -⟩ := C
  exact fun H locs la hP hS hl => lv_isub hx hb d (k H locs la hP hS hl)
theorem r_imul {x y : Int32} (C : gC Z w cc own ret nL rm) (d : decode cc pc = .ok (.imul, 1)) (k : WW Z post (pc + 1) ls (.int (x * y) :: st) G) : WW Z post pc ls (.int y :: .int x :: st) G := by
  obtain ⟨Y, ⟨p, l, e, s, m, args, below, meth, c⟩, rm0, A⟩ := Z
  obtain ⟨⟨hx, hb⟩, -⟩ := C
  exact fun H locs la hP hS hl => lv_imul hx hb d (k H locs la hP hS hl)
theorem r_iand {x y : Int32} (C : gC Z w cc own ret nL rm) (d : decode cc pc = .ok (.iand, 1)) (k : WW Z post (pc + 1) ls (.int (x &&& y) :: st) G) : WW Z post pc ls (.int y :: .int x :: st) G := by
  obtain ⟨Y, ⟨p, l, e, s, m, args, below, meth, c⟩, rm0, A⟩ := Z
  obtain ⟨⟨hx, hb⟩, -⟩ := C
  exact fun H locs la hP hS hl => lv_iand hx hb d (k H locs la hP hS hl)
theorem r_ior {x y : Int32} (C : gC Z w cc own ret nL rm) (d : decode cc pc = .ok (.ior, 1)) (k : WW Z post (pc + 1) ls (.int (x ||| y) :: st) G) : WW Z post pc ls (.int y :: .int x :: st) G := by
  obtain ⟨Y, ⟨p, l, e, s, m, args, below, meth, c⟩, rm0, A⟩ := Z
  obtain ⟨⟨hx, hb⟩, -⟩ := C
  exact fun H locs la hP hS hl => lv_ior hx hb d (k H locs la hP hS hl)
theorem r_ixor {x y : Int32} (C : gC Z w cc own ret nL rm) (d : decode cc pc = .ok (.ixor, 1)) (k : WW Z post (pc + 1) ls (.int (x ^^^ y) :: st) G) : WW Z post pc ls (.int y :: .int x :: st) G := by
  obtain ⟨Y, ⟨p, l, e, s, m, args, below, meth, c⟩, rm0, A⟩ := Z
  obtain ⟨⟨hx, hb⟩, -⟩ := C
  exact fun H locs la hP hS hl => lv_ixor hx hb d (k H locs la hP hS hl)
theorem r_ishl {x y : Int32} (C : gC Z w cc own ret nL rm) (d : decode cc pc = .ok (.ishl, 1)) (k : WW Z post (pc + 1) ls (.int (x <<< (y &&& 31)) :: st) G) : WW Z post pc ls (.int y :: .int x :: st) G := by
  obtain ⟨Y, ⟨p, l, e, s, m, args, below, meth, c⟩, rm0, A⟩ := Z
  obtain ⟨⟨hx, hb⟩, -⟩ := C
  exact fun H locs la hP hS hl => lv_ishl hx hb d (k H locs la hP hS hl)
theorem r_ishr {x y : Int32} (C : gC Z w cc own ret nL rm) (d : decode cc pc = .ok (.ishr, 1)) (k : WW Z post (pc + 1) ls (.int (x >>> (y &&& 31)) :: st) G) : WW Z post pc ls (.int y :: .int x :: st) G := by
  obtain ⟨Y, ⟨p, l, e, s, m, args, below, meth, c⟩, rm0, A⟩ := Z
  obtain ⟨⟨hx, hb⟩, -⟩ := C
  exact fun H locs la hP hS hl => lv_ishr hx hb d (k H locs la hP hS hl)
theorem r_iushr {x y : Int32} (C : gC Z w cc own ret nL rm) (d : decode cc pc = .ok (.iushr, 1)) (k : WW Z post (pc + 1) ls (.int ((x.toUInt32 >>> (y.toUInt32 &&& Int32.toUInt32 31)).toInt32) :: st) G) : WW Z post pc ls (.int y :: .int x :: st) G := by
  obtain ⟨Y, ⟨p, l, e, s, m, args, below, meth, c⟩, rm0, A⟩ := Z
  obtain ⟨⟨hx, hb⟩, -⟩ := C
  exact fun H locs la hP hS hl => lv_iushr hx hb d rfl (k H locs la hP hS hl)
theorem r_idiv {x y : Int32} (C : gC Z w cc own ret nL rm) (d : decode cc pc = .ok (.idiv, 1)) (hne : ¬ y = 0) (k : WW Z post (pc + 1) ls (.int (x / y) :: st) G) : WW Z post pc ls (.int y :: .int x :: st) G := by
  obtain ⟨Y, ⟨p, l, e, s, m, args, below, meth, c⟩, rm0, A⟩ := Z
  obtain ⟨⟨hx, hb⟩, -⟩ := C
  exact fun H locs la hP hS hl => lv_idiv hx hb d hne (k H locs la hP hS hl)
theorem r_irem {x y : Int32} (C : gC Z w cc own ret nL rm) (d : decode cc pc = .ok (.irem, 1)) (hne : ¬ y = 0) (k : WW Z post (pc + 1) ls (.int (x - x / y * y) :: st) G) : WW Z post pc ls (.int y :: .int x :: st) G := by
  obtain ⟨Y, ⟨p, l, e, s, m, args, below, meth, c⟩, rm0, A⟩ := Z
  obtain ⟨⟨hx, hb⟩, -⟩ := C
  exact fun H locs la hP hS hl => lv_irem hx hb d hne (k H locs la hP hS hl)
theorem r_ladd {x y : Int64} (C : gC Z w cc own ret nL rm) (d : decode cc pc = .ok (.ladd, 1)) (k : WW Z post (pc + 1) ls (.long (x + y) :: st) G) : WW Z post pc ls (.long y :: .long x :: st) G := by
  obtain ⟨Y, ⟨p, l, e, s, m, args, below, meth, c⟩, rm0, A⟩ := Z
  obtain ⟨⟨hx, hb⟩, -⟩ := C
  exact fun H locs la hP hS hl => lv_ladd hx hb d (k H locs la hP hS hl)
theorem r_lmul {x y : Int64} (C : gC Z w cc own ret nL rm) (d : decode cc pc = .ok (.lmul, 1)) (k : WW Z post (pc + 1) ls (.long (x * y) :: st) G) : WW Z post pc ls (.long y :: .long x :: st) G := by
  obtain ⟨Y, ⟨p, l, e, s, m, args, below, meth, c⟩, rm0, A⟩ := Z
  obtain ⟨⟨hx, hb⟩, -⟩ := C
  exact fun H locs la hP hS hl => lv_lmul hx hb d (k H locs la hP hS hl)
theorem r_land {x y : Int64} (C : gC Z w cc own ret nL rm) (d : decode cc pc = .ok (.land, 1)) (k : WW Z post (pc + 1) ls (.long (x &&& y) :: st) G) : WW Z post pc ls (.long y :: .long x :: st) G := by
  obtain ⟨Y, ⟨p, l, e, s, m, args, below, meth, c⟩, rm0, A⟩ := Z
  obtain ⟨⟨hx, hb⟩, -⟩ := C
  exact fun H locs la hP hS hl => lv_land hx hb d (k H locs la hP hS hl)
theorem r_lor {x y : Int64} (C : gC Z w cc own ret nL rm) (d : decode cc pc = .ok (.lor, 1)) (k : WW Z post (pc + 1) ls (.long (x ||| y) :: st) G) : WW Z post pc ls (.long y :: .long x :: st) G := by
  obtain ⟨Y, ⟨p, l, e, s, m, args, below, meth, c⟩, rm0, A⟩ := Z
  obtain ⟨⟨hx, hb⟩, -⟩ := C
  exact fun H locs la hP hS hl => lv_lor hx hb d (k H locs la hP hS hl)
theorem r_lshl {x : Int64} {y : Int32} (C : gC Z w cc own ret nL rm) (d : decode cc pc = .ok (.lshl, 1)) (k : WW Z post (pc + 1) ls (.long (x <<< (y.toInt64 &&& 63)) :: st) G) : WW Z post pc ls (.int y :: .long x :: st) G := by
  obtain ⟨Y, ⟨p, l, e, s, m, args, below, meth, c⟩, rm0, A⟩ := Z
  obtain ⟨⟨hx, hb⟩, -⟩ := C
  exact fun H locs la hP hS hl => lv_lshl hx hb d rfl (k H locs la hP hS hl)
theorem r_lushr {x : Int64} {y : Int32} (C : gC Z w cc own ret nL rm) (d : decode cc pc = .ok (.lushr, 1)) (k : WW Z post (pc + 1) ls (.long ((x.toUInt64 >>> (y.toInt64.toUInt64 &&& Int64.toUInt64 63)).toInt64) :: st) G) : WW Z post pc ls (.int y :: .long x :: st) G := by
  obtain ⟨Y, ⟨p, l, e, s, m, args, below, meth, c⟩, rm0, A⟩ := Z
  obtain ⟨⟨hx, hb⟩, -⟩ := C
  exact fun H locs la hP hS hl => lv_lushr hx hb d rfl (k H locs la hP hS hl)
theorem r_lcmp {x y : Int64} (C : gC Z w cc own ret nL rm) (d : decode cc pc = .ok (.lcmp, 1)) (k : WW Z post (pc + 1) ls (.int (lg_cmp x y) :: st) G) : WW Z post pc ls (.long y :: .long x :: st) G := by
  obtain ⟨Y, ⟨p, l, e, s, m, args, below, meth, c⟩, rm0, A⟩ := Z
  obtain ⟨⟨hx, hb⟩, -⟩ := C
  exact fun H locs la hP hS hl => W.lcmp hx hb d (k H locs la hP hS hl)
theorem r_i2l {x : Int32} (C : gC Z w cc own ret nL rm) (d : decode cc pc = .ok (.i2l, 1)) (k : WW Z post (pc + 1) ls (.long (x.toInt64) :: st) G) : WW Z post pc ls (.int x :: st) G := by
  obtain ⟨Y, ⟨p, l, e, s, m, args, below, meth, c⟩, rm0, A⟩ := Z
  obtain ⟨⟨hx, hb⟩, -⟩ := C
  exact fun H locs la hP hS hl => lv_i2l hx hb d rfl (k H locs la hP hS hl)
theorem r_l2i {x : Int64} (C : gC Z w cc own ret nL rm) (d : decode cc pc = .ok (.l2i, 1)) (k : WW Z post (pc + 1) ls (.int (x.toInt32) :: st) G) : WW Z post pc ls (.long x :: st) G := by
  obtain ⟨Y, ⟨p, l, e, s, m, args, below, meth, c⟩, rm0, A⟩ := Z
  obtain ⟨⟨hx, hb⟩, -⟩ := C
  exact fun H locs la hP hS hl => lv_l2i hx hb d rfl (k H locs la hP hS hl)
theorem r_i2b {x : Int32} (C : gC Z w cc own ret nL rm) (d : decode cc pc = .ok (.i2b, 1)) (k : WW Z post (pc + 1) ls (.int (x.toInt8.toInt32) :: st) G) : WW Z post pc ls (.int x :: st) G := by
  obtain ⟨Y, ⟨p, l, e, s, m, args, below, meth, c⟩, rm0, A⟩ := Z
  obtain ⟨⟨hx, hb⟩, -⟩ := C
  exact fun H locs la hP hS hl => lv_i2b hx hb d rfl (k H locs la hP hS hl)
theorem r_dup {a : Value} (C : gC Z w cc own ret nL rm) (d : decode cc pc = .ok (.dup, 1)) (ha : a.category = 1) (k : WW Z post (pc + 1) ls (a :: a :: st) G) : WW Z post pc ls (a :: st) G := by
  obtain ⟨Y, ⟨p, l, e, s, m, args, below, meth, c⟩, rm0, A⟩ := Z
  obtain ⟨⟨hx, hb⟩, -⟩ := C
  exact fun H locs la hP hS hl => lv_dup hx hb d ha (k H locs la hP hS hl)
theorem r_pop {a : Value} (C : gC Z w cc own ret nL rm) (d : decode cc pc = .ok (.pop, 1)) (ha : a.category = 1) (k : WW Z post (pc + 1) ls (st) G) : WW Z post pc ls (a :: st) G := by
  obtain ⟨Y, ⟨p, l, e, s, m, args, below, meth, c⟩, rm0, A⟩ := Z
  obtain ⟨⟨hx, hb⟩, -⟩ := C
  exact fun H locs la hP hS hl => lv_pop hx hb d ha (k H locs la hP hS hl)
theorem r_dup_x1 {a b : Value} (C : gC Z w cc own ret nL rm) (d : decode cc pc = .ok (.dup_x1, 1)) (ha : a.category = 1) (hb2 : b.category = 1) (k : WW Z post (pc + 1) ls (a :: b :: a :: st) G) : WW Z post pc ls (a :: b :: st) G := by
  obtain ⟨Y, ⟨p, l, e, s, m, args, below, meth, c⟩, rm0, A⟩ := Z
  obtain ⟨⟨hx, hb⟩, -⟩ := C
  exact fun H locs la hP hS hl => lv_dup_x1 hx hb d ha hb2 (k H locs la hP hS hl)
theorem r_dup2 {a b : Value} (C : gC Z w cc own ret nL rm) (d : decode cc pc = .ok (.dup2, 1)) (ha : a.category = 1) (hb2 : b.category = 1) (k : WW Z post (pc + 1) ls (a :: b :: a :: b :: st) G) : WW Z post pc ls (a :: b :: st) G := by
  obtain ⟨Y, ⟨p, l, e, s, m, args, below, meth, c⟩, rm0, A⟩ := Z
  obtain ⟨⟨hx, hb⟩, -⟩ := C
  exact fun H locs la hP hS hl => lv_dup2_11 hx hb d ha hb2 (k H locs la hP hS hl)
theorem r_dup2L {a : Value} (C : gC Z w cc own ret nL rm) (d : decode cc pc = .ok (.dup2, 1)) (ha : a.category = 2) (k : WW Z post (pc + 1) ls (a :: a :: st) G) : WW Z post pc ls (a :: st) G := by
  obtain ⟨Y, ⟨p, l, e, s, m, args, below, meth, c⟩, rm0, A⟩ := Z
  obtain ⟨⟨hx, hb⟩, -⟩ := C
  exact fun H locs la hP hS hl => lv_dup2_2 hx hb d ha (k H locs la hP hS hl)
theorem r_goto {off : Int} (tgt : Nat) (C : gC Z w cc own ret nL rm) (d : decode cc pc = .ok (.goto off, 3)) (ht : (pc : Int) + off = (tgt : Int)) (k : WW Z post tgt ls st G) : WW Z post pc ls st G := by
  obtain ⟨Y, ⟨p, l, e, s, m, args, below, meth, c⟩, rm0, A⟩ := Z
  obtain ⟨⟨hx, hb⟩, -⟩ := C
  exact fun H locs la hP hS hl => lv_goto hx hb d ht (k H locs la hP hS hl)
theorem r_if_eq {off : Int} {x : Int32} (tgt : Nat) (C : gC Z w cc own ret nL rm) (d : decode cc pc = .ok (.ifCond .eq off, 3)) (ht : (pc : Int) + off = (tgt : Int)) (kt : x = 0 → WW Z post tgt ls st G) (kf : ¬ x = 0 → WW Z post (pc + 3) ls st G) : WW Z post pc ls (.int x :: st) G := by
  obtain ⟨Y, ⟨p, l, e, s, m, args, below, meth, c⟩, rm0, A⟩ := Z
  obtain ⟨⟨hx, hb⟩, -⟩ := C
  exact fun H locs la hP hS hl => lv_if_eq hx hb d ht (fun h => kt (by first | exact h | simpa using h) H locs la hP hS hl) (fun h => kf (by first | exact h | exact Classical.not_not.mp h | simpa using h) H locs la hP hS hl)
theorem r_if_ne {off : Int} {x : Int32} (tgt : Nat) (C : gC Z w cc own ret nL rm) (d : decode cc pc = .ok (.ifCond .ne off, 3)) (ht : (pc : Int) + off = (tgt : Int)) (kt : ¬ x = 0 → WW Z post tgt ls st G) (kf : x = 0 → WW Z post (pc + 3) ls st G) : WW Z post pc ls (.int x :: st) G := by
  obtain ⟨Y, ⟨p, l, e, s, m, args, below, meth, c⟩, rm0, A⟩ := Z
  obtain ⟨⟨hx, hb⟩, -⟩ := C
  exact fun H locs la hP hS hl => lv_if_ne hx hb d ht (fun h => kt (by first | exact h | simpa using h) H locs la hP hS hl) (fun h => kf (by first | exact h | exact Classical.not_not.mp h | simpa using h) H locs la hP hS hl)
theorem r_if_lt {off : Int} {x : Int32} (tgt : Nat) (C : gC Z w cc own ret nL rm) (d : decode cc pc = .ok (.ifCond .lt off, 3)) (ht : (pc : Int) + off = (tgt : Int)) (kt : x < 0 → WW Z post tgt ls st G) (kf : ¬ x < 0 → WW Z post (pc + 3) ls st G) : WW Z post pc ls (.int x :: st) G := by
  obtain ⟨Y, ⟨p, l, e, s, m, args, below, meth, c⟩, rm0, A⟩ := Z
  obtain ⟨⟨hx, hb⟩, -⟩ := C
  exact fun H locs la hP hS hl => lv_if_lt hx hb d ht (fun h => kt (by first | exact h | simpa using h) H locs la hP hS hl) (fun h => kf (by first | exact h | exact Classical.not_not.mp h | simpa using h) H locs la hP hS hl)
theorem r_if_ge {off : Int} {x : Int32} (tgt : Nat) (C : gC Z w cc own ret nL rm) (d : decode cc pc = .ok (.ifCond .ge off, 3)) (ht : (pc : Int) + off = (tgt : Int)) (kt : 0 ≤ x → WW Z post tgt ls st G) (kf : ¬ 0 ≤ x → WW Z post (pc + 3) ls st G) : WW Z post pc ls (.int x :: st) G := by
  obtain ⟨Y, ⟨p, l, e, s, m, args, below, meth, c⟩, rm0, A⟩ := Z
  obtain ⟨⟨hx, hb⟩, -⟩ := C
  exact fun H locs la hP hS hl => lv_if_ge hx hb d ht (fun h => kt (by first | exact h | simpa using h) H locs la hP hS hl) (fun h => kf (by first | exact h | exact Classical.not_not.mp h | simpa using h) H locs la hP hS hl)
theorem r_if_gt {off : Int} {x : Int32} (tgt : Nat) (C : gC Z w cc own ret nL rm) (d : decode cc pc = .ok (.ifCond .gt off, 3)) (ht : (pc : Int) + off = (tgt : Int)) (kt : 0 < x → WW Z post tgt ls st G) (kf : ¬ 0 < x → WW Z post (pc + 3) ls st G) : WW Z post pc ls (.int x :: st) G := by
  obtain ⟨Y, ⟨p, l, e, s, m, args, below, meth, c⟩, rm0, A⟩ := Z
  obtain ⟨⟨hx, hb⟩, -⟩ := C
  exact fun H locs la hP hS hl => lv_if_gt hx hb d ht (fun h => kt (by first | exact h | simpa using h) H locs la hP hS hl) (fun h => kf (by first | exact h | exact Classical.not_not.mp h | simpa using h) H locs la hP hS hl)
theorem r_if_le {off : Int} {x : Int32} (tgt : Nat) (C : gC Z w cc own ret nL rm) (d : decode cc pc = .ok (.ifCond .le off, 3)) (ht : (pc : Int) + off = (tgt : Int)) (kt : x ≤ 0 → WW Z post tgt ls st G) (kf : ¬ x ≤ 0 → WW Z post (pc + 3) ls st G) : WW Z post pc ls (.int x :: st) G := by
  obtain ⟨Y, ⟨p, l, e, s, m, args, below, meth, c⟩, rm0, A⟩ := Z
  obtain ⟨⟨hx, hb⟩, -⟩ := C
  exact fun H locs la hP hS hl => lv_if_le hx hb d ht (fun h => kt (by first | exact h | simpa using h) H locs la hP hS hl) (fun h => kf (by first | exact h | exact Classical.not_not.mp h | simpa using h) H locs la hP hS hl)
theorem r_icmp_eq {off : Int} {x y : Int32} (tgt : Nat) (C : gC Z w cc own ret nL rm) (d : decode cc pc = .ok (.if_icmp .eq off, 3)) (ht : (pc : Int) + off = (tgt : Int)) (kt : x = y → WW Z post tgt ls st G) (kf : ¬ x = y → WW Z post (pc + 3) ls st G) : WW Z post pc ls (.int y :: .int x :: st) G := by
  obtain ⟨Y, ⟨p, l, e, s, m, args, below, meth, c⟩, rm0, A⟩ := Z
  obtain ⟨⟨hx, hb⟩, -⟩ := C
  exact fun H locs la hP hS hl => lv_icmp_eq hx hb d ht (fun h => kt (by first | exact h | simpa using h) H locs la hP hS hl) (fun h => kf (by first | exact h | exact Classical.not_not.mp h | simpa using h) H locs la hP hS hl)
theorem r_icmp_ne {off : Int} {x y : Int32} (tgt : Nat) (C : gC Z w cc own ret nL rm) (d : decode cc pc = .ok (.if_icmp .ne off, 3)) (ht : (pc : Int) + off = (tgt : Int)) (kt : ¬ x = y → WW Z post tgt ls st G) (kf : x = y → WW Z post (pc + 3) ls st G) : WW Z post pc ls (.int y :: .int x :: st) G := by
  obtain ⟨Y, ⟨p, l, e, s, m, args, below, meth, c⟩, rm0, A⟩ := Z
  obtain ⟨⟨hx, hb⟩, -⟩ := C
  exact fun H locs la hP hS hl => lv_icmp_ne hx hb d ht (fun h => kt (by first | exact h | simpa using h) H locs la hP hS hl) (fun h => kf (by first | exact h | exact Classical.not_not.mp h | simpa using h) H locs la hP hS hl)
theorem r_icmp_lt {off : Int} {x y : Int32} (tgt : Nat) (C : gC Z w cc own ret nL rm) (d : decode cc pc = .ok (.if_icmp .lt off, 3)) (ht : (pc : Int) + off = (tgt : Int)) (kt : x < y → WW Z post tgt ls st G) (kf : ¬ x < y → WW Z post (pc + 3) ls st G) : WW Z post pc ls (.int y :: .int x :: st) G := by
  obtain ⟨Y, ⟨p, l, e, s, m, args, below, meth, c⟩, rm0, A⟩ := Z
  obtain ⟨⟨hx, hb⟩, -⟩ := C
  exact fun H locs la hP hS hl => lv_icmp_lt hx hb d ht (fun h => kt (by first | exact h | simpa using h) H locs la hP hS hl) (fun h => kf (by first | exact h | exact Classical.not_not.mp h | simpa using h) H locs la hP hS hl)
theorem r_icmp_ge {off : Int} {x y : Int32} (tgt : Nat) (C : gC Z w cc own ret nL rm) (d : decode cc pc = .ok (.if_icmp .ge off, 3)) (ht : (pc : Int) + off = (tgt : Int)) (kt : y ≤ x → WW Z post tgt ls st G) (kf : ¬ y ≤ x → WW Z post (pc + 3) ls st G) : WW Z post pc ls (.int y :: .int x :: st) G := by
  obtain ⟨Y, ⟨p, l, e, s, m, args, below, meth, c⟩, rm0, A⟩ := Z
  obtain ⟨⟨hx, hb⟩, -⟩ := C
  exact fun H locs la hP hS hl => lv_icmp_ge hx hb d ht (fun h => kt (by first | exact h | simpa using h) H locs la hP hS hl) (fun h => kf (by first | exact h | exact Classical.not_not.mp h | simpa using h) H locs la hP hS hl)
theorem r_icmp_gt {off : Int} {x y : Int32} (tgt : Nat) (C : gC Z w cc own ret nL rm) (d : decode cc pc = .ok (.if_icmp .gt off, 3)) (ht : (pc : Int) + off = (tgt : Int)) (kt : y < x → WW Z post tgt ls st G) (kf : ¬ y < x → WW Z post (pc + 3) ls st G) : WW Z post pc ls (.int y :: .int x :: st) G := by
  obtain ⟨Y, ⟨p, l, e, s, m, args, below, meth, c⟩, rm0, A⟩ := Z
  obtain ⟨⟨hx, hb⟩, -⟩ := C
  exact fun H locs la hP hS hl => lv_icmp_gt hx hb d ht (fun h => kt (by first | exact h | simpa using h) H locs la hP hS hl) (fun h => kf (by first | exact h | exact Classical.not_not.mp h | simpa using h) H locs la hP hS hl)
theorem r_icmp_le {off : Int} {x y : Int32} (tgt : Nat) (C : gC Z w cc own ret nL rm) (d : decode cc pc = .ok (.if_icmp .le off, 3)) (ht : (pc : Int) + off = (tgt : Int)) (kt : x ≤ y → WW Z post tgt ls st G) (kf : ¬ x ≤ y → WW Z post (pc + 3) ls st G) : WW Z post pc ls (.int y :: .int x :: st) G := by
  obtain ⟨Y, ⟨p, l, e, s, m, args, below, meth, c⟩, rm0, A⟩ := Z
  obtain ⟨⟨hx, hb⟩, -⟩ := C
  exact fun H locs la hP hS hl => lv_icmp_le hx hb d ht (fun h => kt (by first | exact h | simpa using h) H locs la hP hS hl) (fun h => kf (by first | exact h | exact Classical.not_not.mp h | simpa using h) H locs la hP hS hl)
theorem r_tableOut {dflt lo hi : Int} {offs : Array Int} {len : Nat} {x : Int32} (tgt : Nat) (C : gC Z w cc own ret nL rm) (d : decode cc pc = .ok (.tableswitch dflt lo hi offs, len)) (h : x.toInt < lo ∨ hi < x.toInt) (ht : (pc : Int) + dflt = (tgt : Int)) (k : WW Z post tgt ls st G) : WW Z post pc ls (.int x :: st) G := by
  obtain ⟨Y, ⟨p, l, e, s, m, args, below, meth, c⟩, rm0, A⟩ := Z
  obtain ⟨⟨hx, hb⟩, -⟩ := C
  exact fun H locs la hP hS hl => lv_tableOut hx hb d h ht (k H locs la hP hS hl)
theorem r_tableIn {dflt lo hi : Int} {offs : Array Int} {len : Nat} {x : Int32} {off : Int} (tgt : Nat) (C : gC Z w cc own ret nL rm) (d : decode cc pc = .ok (.tableswitch dflt lo hi offs, len)) (h1 : ¬ x.toInt < lo) (h2 : ¬ hi < x.toInt) (ho : offs[(x.toInt - lo).toNat]? = some off) (ht : (pc : Int) + off = (tgt : Int)) (k : WW Z post tgt ls st G) : WW Z post pc ls (.int x :: st) G := by
  obtain ⟨Y, ⟨p, l, e, s, m, args, below, meth, c⟩, rm0, A⟩ := Z
  obtain ⟨⟨hx, hb⟩, -⟩ := C
  exact fun H locs la hP hS hl => lv_tableIn hx hb d h1 h2 ho ht (k H locs la hP hS hl)
theorem r_lookup {dflt : Int} {ps : Array (Int × Int)} {len : Nat} {x : Int32} {off : Int} (tgt : Nat) (C : gC Z w cc own ret nL rm) (d : decode cc pc = .ok (.lookupswitch dflt ps, len)) (hp : (ps.toList.zip (ps.toList.drop 1)).all (fun (a, next) => a.1 < next.1) = true) (ho : Op.lookupswitch.offset ps.toList dflt x.toInt = off) (ht : (pc : Int) + off = (tgt : Int)) (k : WW Z post tgt ls st G) : WW Z post pc ls (.int x :: st) G := by
  obtain ⟨Y, ⟨p, l, e, s, m, args, below, meth, c⟩, rm0, A⟩ := Z
  obtain ⟨⟨hx, hb⟩, -⟩ := C
  exact fun H locs la hP hS hl => lv_lookup hx hb d hp ho ht (k H locs la hP hS hl)
theorem r_iload0 {x : Int32} (C : gC Z w cc own ret nL rm) (d : decode cc pc = .ok (.iload_n 0, 1)) (k : WW Z post (pc + 1) (some (.int x) :: ls) (.int x :: st) G) : WW Z post pc (some (.int x) :: ls) st G := by
  obtain ⟨Y, ⟨p, l, e, s, m, args, below, meth, c⟩, rm0, A⟩ := Z
  obtain ⟨⟨hx, hb⟩, -⟩ := C
  exact fun H locs la hP hS hl => lv_iload_n hx hb d rfl (lh_at hl rfl) (k H locs la hP hS hl)
theorem r_istore0 {oo : Option Value} {x : Int32} (C : gC Z w cc own ret nL rm) (d : decode cc pc = .ok (.istore_n 0, 1)) (k : WW Z post (pc + 1) (some (.int x) :: ls) st G) : WW Z post pc (oo :: ls) (.int x :: st) G := by
  obtain ⟨Y, ⟨p, l, e, s, m, args, below, meth, c⟩, rm0, A⟩ := Z
  obtain ⟨⟨hx, hb⟩, -⟩ := C
  exact fun H locs la hP hS hl => lv_istore_n (i := 0) hx hb d rfl hl (by simp only [List.length_cons]; omega) rfl (fun la2 hl2 => k H locs la2 hP hS (lh_s1 (ls := oo :: ls) (i := 0) hl2 (fun j w hj hw => by omega)))
theorem r_iinc0 {x : Int32} {n : Int} (v : Int32) (C : gC Z w cc own ret nL rm) (d : decode cc pc = .ok (.iinc 0 n, 3)) (hv : Int32.ofInt n = v) (k : WW Z post (pc + 3) (some (.int (x + v)) :: ls) st G) : WW Z post pc (some (.int x) :: ls) st G := by
  obtain ⟨Y, ⟨p, l, e, s, m, args, below, meth, c⟩, rm0, A⟩ := Z
  obtain ⟨⟨hx, hb⟩, -⟩ := C
  intro H locs la hP hS hl
  obtain ⟨j, hj⟩ := List.getElem?_of_mem ((prs_mem (some (.int x) :: ls) 0 0 (.int x)).mpr ⟨Nat.zero_le _, rfl⟩)
  exact lv_iinc (i := 0) hx hb d hl hj (by rw [hv]) (by simp only [List.length_cons]; omega) rfl (fun la2 hl2 => k H locs la2 hP hS (lh_s1 (ls := some (.int x) :: ls) (i := 0) hl2 (fun j w hj hw => by omega)))
theorem r_iload1 {o0 : Option Value} {x : Int32} (C : gC Z w cc own ret nL rm) (d : decode cc pc = .ok (.iload_n 1, 1)) (k : WW Z post (pc + 1) (o0 :: some (.int x) :: ls) (.int x :: st) G) : WW Z post pc (o0 :: some (.int x) :: ls) st G := by
  obtain ⟨Y, ⟨p, l, e, s, m, args, below, meth, c⟩, rm0, A⟩ := Z
  obtain ⟨⟨hx, hb⟩, -⟩ := C
  exact fun H locs la hP hS hl => lv_iload_n hx hb d rfl (lh_at hl rfl) (k H locs la hP hS hl)
theorem r_istore1 {o0 oo : Option Value} {x : Int32} (C : gC Z w cc own ret nL rm) (d : decode cc pc = .ok (.istore_n 1, 1)) (h1 : c1 o0 = true) (k : WW Z post (pc + 1) (o0 :: some (.int x) :: ls) st G) : WW Z post pc (o0 :: oo :: ls) (.int x :: st) G := by
  obtain ⟨Y, ⟨p, l, e, s, m, args, below, meth, c⟩, rm0, A⟩ := Z
  obtain ⟨⟨hx, hb⟩, -⟩ := C
  exact fun H locs la hP hS hl => lv_istore_n (i := 1) hx hb d rfl hl (by simp only [List.length_cons]; omega) rfl (fun la2 hl2 => k H locs la2 hP hS (lh_s1 (ls := o0 :: oo :: ls) (i := 1) hl2 (fun j w hj hw => by
      obtain rfl : j = 0 := by omega
      cases hw; exact h1)))
theorem r_iinc1 {o0 : Option Value} {x : Int32} {n : Int} (v : Int32) (C : gC Z w cc own ret nL rm) (d : decode cc pc = .ok (.iinc 1 n, 3)) (hv : Int32.ofInt n = v) (h1 : c1 o0 = true) (k : WW Z post (pc + 3) (o0 :: some (.int (x + v)) :: ls) st G) : WW Z post pc (o0 :: some (.int x) :: ls) st G := by
  obtain ⟨Y, ⟨p, l, e, s, m, args, below, meth, c⟩, rm0, A⟩ := Z
  obtain ⟨⟨hx, hb⟩, -⟩ := C
  intro H locs la hP hS hl
  obtain ⟨j, hj⟩ := List.getElem?_of_mem ((prs_mem (o0 :: some (.int x) :: ls) 0 1 (.int x)).mpr ⟨Nat.zero_le _, rfl⟩)
  exact lv_iinc (i := 1) hx hb d hl hj (by rw [hv]) (by simp only [List.length_cons]; omega) rfl (fun la2 hl2 => k H locs la2 hP hS (lh_s1 (ls := o0 :: some (.int x) :: ls) (i := 1) hl2 (fun j w hj hw => by
      obtain rfl : j = 0 := by omega
      cases hw; exact h1)))
theorem r_iload2 {o0 o1 : Option Value} {x : Int32} (C : gC Z w cc own ret nL rm) (d : decode cc pc = .ok (.iload_n 2, 1)) (k : WW Z post (pc + 1) (o0 :: o1 :: some (.int x) :: ls) (.int x :: st) G) : WW Z post pc (o0 :: o1 :: some (.int x) :: ls) st G := by
  obtain ⟨Y, ⟨p, l, e, s, m, args, below, meth, c⟩, rm0, A⟩ := Z
  obtain ⟨⟨hx, hb⟩, -⟩ := C
  exact fun H locs la hP hS hl => lv_iload_n hx hb d rfl (lh_at hl rfl) (k H locs la hP hS hl)
theorem r_istore2 {o0 o1 oo : Option Value} {x : Int32} (C : gC Z w cc own ret nL rm) (d : decode cc pc = .ok (.istore_n 2, 1)) (h1 : c1 o1 = true) (k : WW Z post (pc + 1) (o0 :: o1 :: some (.int x) :: ls) st G) : WW Z post pc (o0 :: o1 :: oo :: ls) (.int x :: st) G := by
  obtain ⟨Y, ⟨p, l, e, s, m, args, below, meth, c⟩, rm0, A⟩ := Z
  obtain ⟨⟨hx, hb⟩, -⟩ := C
  exact fun H locs la hP hS hl => lv_istore_n (i := 2) hx hb d rfl hl (by simp only [List.length_cons]; omega) rfl (fun la2 hl2 => k H locs la2 hP hS (lh_s1 (ls := o0 :: o1 :: oo :: ls) (i := 2) hl2 (fun j w hj hw => by
      obtain rfl : j = 1 := by omega
      cases hw; exact h1)))
theorem r_iinc2 {o0 o1 : Option Value} {x : Int32} {n : Int} (v : Int32) (C : gC Z w cc own ret nL rm) (d : decode cc pc = .ok (.iinc 2 n, 3)) (hv : Int32.ofInt n = v) (h1 : c1 o1 = true) (k : WW Z post (pc + 3) (o0 :: o1 :: some (.int (x + v)) :: ls) st G) : WW Z post pc (o0 :: o1 :: some (.int x) :: ls) st G := by
  obtain ⟨Y, ⟨p, l, e, s, m, args, below, meth, c⟩, rm0, A⟩ := Z
  obtain ⟨⟨hx, hb⟩, -⟩ := C
  intro H locs la hP hS hl
  obtain ⟨j, hj⟩ := List.getElem?_of_mem ((prs_mem (o0 :: o1 :: some (.int x) :: ls) 0 2 (.int x)).mpr ⟨Nat.zero_le _, rfl⟩)
  exact lv_iinc (i := 2) hx hb d hl hj (by rw [hv]) (by simp only [List.length_cons]; omega) rfl (fun la2 hl2 => k H locs la2 hP hS (lh_s1 (ls := o0 :: o1 :: some (.int x) :: ls) (i := 2) hl2 (fun j w hj hw => by
      obtain rfl : j = 1 := by omega
      cases hw; exact h1)))
theorem r_iload3 {o0 o1 o2 : Option Value} {x : Int32} (C : gC Z w cc own ret nL rm) (d : decode cc pc = .ok (.iload_n 3, 1)) (k : WW Z post (pc + 1) (o0 :: o1 :: o2 :: some (.int x) :: ls) (.int x :: st) G) : WW Z post pc (o0 :: o1 :: o2 :: some (.int x) :: ls) st G := by
  obtain ⟨Y, ⟨p, l, e, s, m, args, below, meth, c⟩, rm0, A⟩ := Z
  obtain ⟨⟨hx, hb⟩, -⟩ := C
  exact fun H locs la hP hS hl => lv_iload_n hx hb d rfl (lh_at hl rfl) (k H locs la hP hS hl)
theorem r_istore3 {o0 o1 o2 oo : Option Value} {x : Int32} (C : gC Z w cc own ret nL rm) (d : decode cc pc = .ok (.istore_n 3, 1)) (h1 : c1 o2 = true) (k : WW Z post (pc + 1) (o0 :: o1 :: o2 :: some (.int x) :: ls) st G) : WW Z post pc (o0 :: o1 :: o2 :: oo :: ls) (.int x :: st) G := by
  obtain ⟨Y, ⟨p, l, e, s, m, args, below, meth, c⟩, rm0, A⟩ := Z
  obtain ⟨⟨hx, hb⟩, -⟩ := C
  exact fun H locs la hP hS hl => lv_istore_n (i := 3) hx hb d rfl hl (by simp only [List.length_cons]; omega) rfl (fun la2 hl2 => k H locs la2 hP hS (lh_s1 (ls := o0 :: o1 :: o2 :: oo :: ls) (i := 3) hl2 (fun j w hj hw => by
      obtain rfl : j = 2 := by omega
      cases hw; exact h1)))
theorem r_iinc3 {o0 o1 o2 : Option Value} {x : Int32} {n : Int} (v : Int32) (C : gC Z w cc own ret nL rm) (d : decode cc pc = .ok (.iinc 3 n, 3)) (hv : Int32.ofInt n = v) (h1 : c1 o2 = true) (k : WW Z post (pc + 3) (o0 :: o1 :: o2 :: some (.int (x + v)) :: ls) st G) : WW Z post pc (o0 :: o1 :: o2 :: some (.int x) :: ls) st G := by
  obtain ⟨Y, ⟨p, l, e, s, m, args, below, meth, c⟩, rm0, A⟩ := Z
  obtain ⟨⟨hx, hb⟩, -⟩ := C
  intro H locs la hP hS hl
  obtain ⟨j, hj⟩ := List.getElem?_of_mem ((prs_mem (o0 :: o1 :: o2 :: some (.int x) :: ls) 0 3 (.int x)).mpr ⟨Nat.zero_le _, rfl⟩)
  exact lv_iinc (i := 3) hx hb d hl hj (by rw [hv]) (by simp only [List.length_cons]; omega) rfl (fun la2 hl2 => k H locs la2 hP hS (lh_s1 (ls := o0 :: o1 :: o2 :: some (.int x) :: ls) (i := 3) hl2 (fun j w hj hw => by
      obtain rfl : j = 2 := by omega
      cases hw; exact h1)))
theorem r_iload4 {o0 o1 o2 o3 : Option Value} {x : Int32} (C : gC Z w cc own ret nL rm) (d : decode cc pc = .ok (.iload 4, 2)) (k : WW Z post (pc + 2) (o0 :: o1 :: o2 :: o3 :: some (.int x) :: ls) (.int x :: st) G) : WW Z post pc (o0 :: o1 :: o2 :: o3 :: some (.int x) :: ls) st G := by
  obtain ⟨Y, ⟨p, l, e, s, m, args, below, meth, c⟩, rm0, A⟩ := Z
  obtain ⟨⟨hx, hb⟩, -⟩ := C
  exact fun H locs la hP hS hl => lv_iload hx hb d (lh_at hl rfl) (k H locs la hP hS hl)
theorem r_istore4 {o0 o1 o2 o3 oo : Option Value} {x : Int32} (C : gC Z w cc own ret nL rm) (d : decode cc pc = .ok (.istore 4, 2)) (h1 : c1 o3 = true) (k : WW Z post (pc + 2) (o0 :: o1 :: o2 :: o3 :: some (.int x) :: ls) st G) : WW Z post pc (o0 :: o1 :: o2 :: o3 :: oo :: ls) (.int x :: st) G := by
  obtain ⟨Y, ⟨p, l, e, s, m, args, below, meth, c⟩, rm0, A⟩ := Z
  obtain ⟨⟨hx, hb⟩, -⟩ := C
  exact fun H locs la hP hS hl => lv_istore (i := 4) hx hb d hl (by simp only [List.length_cons]; omega) rfl (fun la2 hl2 => k H locs la2 hP hS (lh_s1 (ls := o0 :: o1 :: o2 :: o3 :: oo :: ls) (i := 4) hl2 (fun j w hj hw => by
      obtain rfl : j = 3 := by omega
      cases hw; exact h1)))
theorem r_iinc4 {o0 o1 o2 o3 : Option Value} {x : Int32} {n : Int} (v : Int32) (C : gC Z w cc own ret nL rm) (d : decode cc pc = .ok (.iinc 4 n, 3)) (hv : Int32.ofInt n = v) (h1 : c1 o3 = true) (k : WW Z post (pc + 3) (o0 :: o1 :: o2 :: o3 :: some (.int (x + v)) :: ls) st G) : WW Z post pc (o0 :: o1 :: o2 :: o3 :: some (.int x) :: ls) st G := by
  obtain ⟨Y, ⟨p, l, e, s, m, args, below, meth, c⟩, rm0, A⟩ := Z
  obtain ⟨⟨hx, hb⟩, -⟩ := C
  intro H locs la hP hS hl
  obtain ⟨j, hj⟩ := List.getElem?_of_mem ((prs_mem (o0 :: o1 :: o2 :: o3 :: some (.int x) :: ls) 0 4 (.int x)).mpr ⟨Nat.zero_le _, rfl⟩)
  exact lv_iinc (i := 4) hx hb d hl hj (by rw [hv]) (by simp only [List.length_cons]; omega) rfl (fun la2 hl2 => k H locs la2 hP hS (lh_s1 (ls := o0 :: o1 :: o2 :: o3 :: some (.int x) :: ls) (i := 4) hl2 (fun j w hj hw => by
      obtain rfl : j = 3 := by omega
      cases hw; exact h1)))
theorem r_iload5 {o0 o1 o2 o3 o4 : Option Value} {x : Int32} (C : gC Z w cc own ret nL rm) (d : decode cc pc = .ok (.iload 5, 2)) (k : WW Z post (pc + 2) (o0 :: o1 :: o2 :: o3 :: o4 :: some (.int x) :: ls) (.int x :: st) G) : WW Z post pc (o0 :: o1 :: o2 :: o3 :: o4 :: some (.int x) :: ls) st G := by
  obtain ⟨Y, ⟨p, l, e, s, m, args, below, meth, c⟩, rm0, A⟩ := Z
  obtain ⟨⟨hx, hb⟩, -⟩ := C
  exact fun H locs la hP hS hl => lv_iload hx hb d (lh_at hl rfl) (k H locs la hP hS hl)
theorem r_istore5 {o0 o1 o2 o3 o4 oo : Option Value} {x : Int32} (C : gC Z w cc own ret nL rm) (d : decode cc pc = .ok (.istore 5, 2)) (h1 : c1 o4 = true) (k : WW Z post (pc + 2) (o0 :: o1 :: o2 :: o3 :: o4 :: some (.int x) :: ls) st G) : WW Z post pc (o0 :: o1 :: o2 :: o3 :: o4 :: oo :: ls) (.int x :: st) G := by
  obtain ⟨Y, ⟨p, l, e, s, m, args, below, meth, c⟩, rm0, A⟩ := Z
  obtain ⟨⟨hx, hb⟩, -⟩ := C
  exact fun H locs la hP hS hl => lv_istore (i := 5) hx hb d hl (by simp only [List.length_cons]; omega) rfl (fun la2 hl2 => k H locs la2 hP hS (lh_s1 (ls := o0 :: o1 :: o2 :: o3 :: o4 :: oo :: ls) (i := 5) hl2 (fun j w hj hw => by
      obtain rfl : j = 4 := by omega
      cases hw; exact h1)))
theorem r_iinc5 {o0 o1 o2 o3 o4 : Option Value} {x : Int32} {n : Int} (v : Int32) (C : gC Z w cc own ret nL rm) (d : decode cc pc = .ok (.iinc 5 n, 3)) (hv : Int32.ofInt n = v) (h1 : c1 o4 = true) (k : WW Z post (pc + 3) (o0 :: o1 :: o2 :: o3 :: o4 :: some (.int (x + v)) :: ls) st G) : WW Z post pc (o0 :: o1 :: o2 :: o3 :: o4 :: some (.int x) :: ls) st G := by
  obtain ⟨Y, ⟨p, l, e, s, m, args, below, meth, c⟩, rm0, A⟩ := Z
  obtain ⟨⟨hx, hb⟩, -⟩ := C
  intro H locs la hP hS hl
  obtain ⟨j, hj⟩ := List.getElem?_of_mem ((prs_mem (o0 :: o1 :: o2 :: o3 :: o4 :: some (.int x) :: ls) 0 5 (.int x)).mpr ⟨Nat.zero_le _, rfl⟩)
  exact lv_iinc (i := 5) hx hb d hl hj (by rw [hv]) (by simp only [List.length_cons]; omega) rfl (fun la2 hl2 => k H locs la2 hP hS (lh_s1 (ls := o0 :: o1 :: o2 :: o3 :: o4 :: some (.int x) :: ls) (i := 5) hl2 (fun j w hj hw => by
      obtain rfl : j = 4 := by omega
      cases hw; exact h1)))
theorem r_iload6 {o0 o1 o2 o3 o4 o5 : Option Value} {x : Int32} (C : gC Z w cc own ret nL rm) (d : decode cc pc = .ok (.iload 6, 2)) (k : WW Z post (pc + 2) (o0 :: o1 :: o2 :: o3 :: o4 :: o5 :: some (.int x) :: ls) (.int x :: st) G) : WW Z post pc (o0 :: o1 :: o2 :: o3 :: o4 :: o5 :: some (.int x) :: ls) st G := by
  obtain ⟨Y, ⟨p, l, e, s, m, args, below, meth, c⟩, rm0, A⟩ := Z
  obtain ⟨⟨hx, hb⟩, -⟩ := C
  exact fun H locs la hP hS hl => lv_iload hx hb d (lh_at hl rfl) (k H locs la hP hS hl)
theorem r_istore6 {o0 o1 o2 o3 o4 o5 oo : Option Value} {x : Int32} (C : gC Z w cc own ret nL rm) (d : decode cc pc = .ok (.istore 6, 2)) (h1 : c1 o5 = true) (k : WW Z post (pc + 2) (o0 :: o1 :: o2 :: o3 :: o4 :: o5 :: some (.int x) :: ls) st G) : WW Z post pc (o0 :: o1 :: o2 :: o3 :: o4 :: o5 :: oo :: ls) (.int x :: st) G := by
  obtain ⟨Y, ⟨p, l, e, s, m, args, below, meth, c⟩, rm0, A⟩ := Z
  obtain ⟨⟨hx, hb⟩, -⟩ := C
  exact fun H locs la hP hS hl => lv_istore (i := 6) hx hb d hl (by simp only [List.length_cons]; omega) rfl (fun la2 hl2 => k H locs la2 hP hS (lh_s1 (ls := o0 :: o1 :: o2 :: o3 :: o4 :: o5 :: oo :: ls) (i := 6) hl2 (fun j w hj hw => by
      obtain rfl : j = 5 := by omega
      cases hw; exact h1)))
theorem r_iinc6 {o0 o1 o2 o3 o4 o5 : Option Value} {x : Int32} {n : Int} (v : Int32) (C : gC Z w cc own ret nL rm) (d : decode cc pc = .ok (.iinc 6 n, 3)) (hv : Int32.ofInt n = v) (h1 : c1 o5 = true) (k : WW Z post (pc + 3) (o0 :: o1 :: o2 :: o3 :: o4 :: o5 :: some (.int (x + v)) :: ls) st G) : WW Z post pc (o0 :: o1 :: o2 :: o3 :: o4 :: o5 :: some (.int x) :: ls) st G := by
  obtain ⟨Y, ⟨p, l, e, s, m, args, below, meth, c⟩, rm0, A⟩ := Z
  obtain ⟨⟨hx, hb⟩, -⟩ := C
  intro H locs la hP hS hl
  obtain ⟨j, hj⟩ := List.getElem?_of_mem ((prs_mem (o0 :: o1 :: o2 :: o3 :: o4 :: o5 :: some (.int x) :: ls) 0 6 (.int x)).mpr ⟨Nat.zero_le _, rfl⟩)
  exact lv_iinc (i := 6) hx hb d hl hj (by rw [hv]) (by simp only [List.length_cons]; omega) rfl (fun la2 hl2 => k H locs la2 hP hS (lh_s1 (ls := o0 :: o1 :: o2 :: o3 :: o4 :: o5 :: some (.int x) :: ls) (i := 6) hl2 (fun j w hj hw => by
      obtain rfl : j = 5 := by omega
      cases hw; exact h1)))
theorem r_iload7 {o0 o1 o2 o3 o4 o5 o6 : Option Value} {x : Int32} (C : gC Z w cc own ret nL rm) (d : decode cc pc = .ok (.iload 7, 2)) (k : WW Z post (pc + 2) (o0 :: o1 :: o2 :: o3 :: o4 :: o5 :: o6 :: some (.int x) :: ls) (.int x :: st) G) : WW Z post pc (o0 :: o1 :: o2 :: o3 :: o4 :: o5 :: o6 :: some (.int x) :: ls) st G := by
  obtain ⟨Y, ⟨p, l, e, s, m, args, below, meth, c⟩, rm0, A⟩ := Z
  obtain ⟨⟨hx, hb⟩, -⟩ := C
  exact fun H locs la hP hS hl => lv_iload hx hb d (lh_at hl rfl) (k H locs la hP hS hl)
theorem r_istore7 {o0 o1 o2 o3 o4 o5 o6 oo : Option Value} {x : Int32} (C : gC Z w cc own ret nL rm) (d : decode cc pc = .ok (.istore 7, 2)) (h1 : c1 o6 = true) (k : WW Z post (pc + 2) (o0 :: o1 :: o2 :: o3 :: o4 :: o5 :: o6 :: some (.int x) :: ls) st G) : WW Z post pc (o0 :: o1 :: o2 :: o3 :: o4 :: o5 :: o6 :: oo :: ls) (.int x :: st) G := by
  obtain ⟨Y, ⟨p, l, e, s, m, args, below, meth, c⟩, rm0, A⟩ := Z
  obtain ⟨⟨hx, hb⟩, -⟩ := C
  exact fun H locs la hP hS hl => lv_istore (i := 7) hx hb d hl (by simp only [List.length_cons]; omega) rfl (fun la2 hl2 => k H locs la2 hP hS (lh_s1 (ls := o0 :: o1 :: o2 :: o3 :: o4 :: o5 :: o6 :: oo :: ls) (i := 7) hl2 (fun j w hj hw => by
      obtain rfl : j = 6 := by omega
      cases hw; exact h1)))
theorem r_iinc7 {o0 o1 o2 o3 o4 o5 o6 : Option Value} {x : Int32} {n : Int} (v : Int32) (C : gC Z w cc own ret nL rm) (d : decode cc pc = .ok (.iinc 7 n, 3)) (hv : Int32.ofInt n = v) (h1 : c1 o6 = true) (k : WW Z post (pc + 3) (o0 :: o1 :: o2 :: o3 :: o4 :: o5 :: o6 :: some (.int (x + v)) :: ls) st G) : WW Z post pc (o0 :: o1 :: o2 :: o3 :: o4 :: o5 :: o6 :: some (.int x) :: ls) st G := by
  obtain ⟨Y, ⟨p, l, e, s, m, args, below, meth, c⟩, rm0, A⟩ := Z
  obtain ⟨⟨hx, hb⟩, -⟩ := C
  intro H locs la hP hS hl
  obtain ⟨j, hj⟩ := List.getElem?_of_mem ((prs_mem (o0 :: o1 :: o2 :: o3 :: o4 :: o5 :: o6 :: some (.int x) :: ls) 0 7 (.int x)).mpr ⟨Nat.zero_le _, rfl⟩)
  exact lv_iinc (i := 7) hx hb d hl hj (by rw [hv]) (by simp only [List.length_cons]; omega) rfl (fun la2 hl2 => k H locs la2 hP hS (lh_s1 (ls := o0 :: o1 :: o2 :: o3 :: o4 :: o5 :: o6 :: some (.int x) :: ls) (i := 7) hl2 (fun j w hj hw => by
      obtain rfl : j = 6 := by omega
      cases hw; exact h1)))
theorem r_iload8 {o0 o1 o2 o3 o4 o5 o6 o7 : Option Value} {x : Int32} (C : gC Z w cc own ret nL rm) (d : decode cc pc = .ok (.iload 8, 2)) (k : WW Z post (pc + 2) (o0 :: o1 :: o2 :: o3 :: o4 :: o5 :: o6 :: o7 :: some (.int x) :: ls) (.int x :: st) G) : WW Z post pc (o0 :: o1 :: o2 :: o3 :: o4 :: o5 :: o6 :: o7 :: some (.int x) :: ls) st G := by
  obtain ⟨Y, ⟨p, l, e, s, m, args, below, meth, c⟩, rm0, A⟩ := Z
  obtain ⟨⟨hx, hb⟩, -⟩ := C
  exact fun H locs la hP hS hl => lv_iload hx hb d (lh_at hl rfl) (k H locs la hP hS hl)
theorem r_istore8 {o0 o1 o2 o3 o4 o5 o6 o7 oo : Option Value} {x : Int32} (C : gC Z w cc own ret nL rm) (d : decode cc pc = .ok (.istore 8, 2)) (h1 : c1 o7 = true) (k : WW Z post (pc + 2) (o0 :: o1 :: o2 :: o3 :: o4 :: o5 :: o6 :: o7 :: some (.int x) :: ls) st G) : WW Z post pc (o0 :: o1 :: o2 :: o3 :: o4 :: o5 :: o6 :: o7 :: oo :: ls) (.int x :: st) G := by
  obtain ⟨Y, ⟨p, l, e, s, m, args, below, meth, c⟩, rm0, A⟩ := Z
  obtain ⟨⟨hx, hb⟩, -⟩ := C
  exact fun H locs la hP hS hl => lv_istore (i := 8) hx hb d hl (by simp only [List.length_cons]; omega) rfl (fun la2 hl2 => k H locs la2 hP hS (lh_s1 (ls := o0 :: o1 :: o2 :: o3 :: o4 :: o5 :: o6 :: o7 :: oo :: ls) (i := 8) hl2 (fun j w hj hw => by
      obtain rfl : j = 7 := by omega
      cases hw; exact h1)))
theorem r_iinc8 {o0 o1 o2 o3 o4 o5 o6 o7 : Option Value} {x : Int32} {n : Int} (v : Int32) (C : gC Z w cc own ret nL rm) (d : decode cc pc = .ok (.iinc 8 n, 3)) (hv : Int32.ofInt n = v) (h1 : c1 o7 = true) (k : WW Z post (pc + 3) (o0 :: o1 :: o2 :: o3 :: o4 :: o5 :: o6 :: o7 :: some (.int (x + v)) :: ls) st G) : WW Z post pc (o0 :: o1 :: o2 :: o3 :: o4 :: o5 :: o6 :: o7 :: some (.int x) :: ls) st G := by
  obtain ⟨Y, ⟨p, l, e, s, m, args, below, meth, c⟩, rm0, A⟩ := Z
  obtain ⟨⟨hx, hb⟩, -⟩ := C
  intro H locs la hP hS hl
  obtain ⟨j, hj⟩ := List.getElem?_of_mem ((prs_mem (o0 :: o1 :: o2 :: o3 :: o4 :: o5 :: o6 :: o7 :: some (.int x) :: ls) 0 8 (.int x)).mpr ⟨Nat.zero_le _, rfl⟩)
  exact lv_iinc (i := 8) hx hb d hl hj (by rw [hv]) (by simp only [List.length_cons]; omega) rfl (fun la2 hl2 => k H locs la2 hP hS (lh_s1 (ls := o0 :: o1 :: o2 :: o3 :: o4 :: o5 :: o6 :: o7 :: some (.int x) :: ls) (i := 8) hl2 (fun j w hj hw => by
      obtain rfl : j = 7 := by omega
      cases hw; exact h1)))
theorem r_iload9 {o0 o1 o2 o3 o4 o5 o6 o7 o8 : Option Value} {x : Int32} (C : gC Z w cc own ret nL rm) (d : decode cc pc = .ok (.iload 9, 2)) (k : WW Z post (pc + 2) (o0 :: o1 :: o2 :: o3 :: o4 :: o5 :: o6 :: o7 :: o8 :: some (.int x) :: ls) (.int x :: st) G) : WW Z post pc (o0 :: o1 :: o2 :: o3 :: o4 :: o5 :: o6 :: o7 :: o8 :: some (.int x) :: ls) st G := by
  obtain ⟨Y, ⟨p, l, e, s, m, args, below, meth, c⟩, rm0, A⟩ := Z
  obtain ⟨⟨hx, hb⟩, -⟩ := C
  exact fun H locs la hP hS hl => lv_iload hx hb d (lh_at hl rfl) (k H locs la hP hS hl)
theorem r_istore9 {o0 o1 o2 o3 o4 o5 o6 o7 o8 oo : Option Value} {x : Int32} (C : gC Z w cc own ret nL rm) (d : decode cc pc = .ok (.istore 9, 2)) (h1 : c1 o8 = true) (k : WW Z post (pc + 2) (o0 :: o1 :: o2 :: o3 :: o4 :: o5 :: o6 :: o7 :: o8 :: some (.int x) :: ls) st G) : WW Z post pc (o0 :: o1 :: o2 :: o3 :: o4 :: o5 :: o6 :: o7 :: o8 :: oo :: ls) (.int x :: st) G := by
  obtain ⟨Y, ⟨p, l, e, s, m, args, below, meth, c⟩, rm0, A⟩ := Z
  obtain ⟨⟨hx, hb⟩, -⟩ := C
  exact fun H locs la hP hS hl => lv_istore (i := 9) hx hb d hl (by simp only [List.length_cons]; omega) rfl (fun la2 hl2 => k H locs la2 hP hS (lh_s1 (ls := o0 :: o1 :: o2 :: o3 :: o4 :: o5 :: o6 :: o7 :: o8 :: oo :: ls) (i := 9) hl2 (fun j w hj hw => by
      obtain rfl : j = 8 := by omega
      cases hw; exact h1)))
theorem r_iinc9 {o0 o1 o2 o3 o4 o5 o6 o7 o8 : Option Value} {x : Int32} {n : Int} (v : Int32) (C : gC Z w cc own ret nL rm) (d : decode cc pc = .ok (.iinc 9 n, 3)) (hv : Int32.ofInt n = v) (h1 : c1 o8 = true) (k : WW Z post (pc + 3) (o0 :: o1 :: o2 :: o3 :: o4 :: o5 :: o6 :: o7 :: o8 :: some (.int (x + v)) :: ls) st G) : WW Z post pc (o0 :: o1 :: o2 :: o3 :: o4 :: o5 :: o6 :: o7 :: o8 :: some (.int x) :: ls) st G := by
  obtain ⟨Y, ⟨p, l, e, s, m, args, below, meth, c⟩, rm0, A⟩ := Z
  obtain ⟨⟨hx, hb⟩, -⟩ := C
  intro H locs la hP hS hl
  obtain ⟨j, hj⟩ := List.getElem?_of_mem ((prs_mem (o0 :: o1 :: o2 :: o3 :: o4 :: o5 :: o6 :: o7 :: o8 :: some (.int x) :: ls) 0 9 (.int x)).mpr ⟨Nat.zero_le _, rfl⟩)
  exact lv_iinc (i := 9) hx hb d hl hj (by rw [hv]) (by simp only [List.length_cons]; omega) rfl (fun la2 hl2 => k H locs la2 hP hS (lh_s1 (ls := o0 :: o1 :: o2 :: o3 :: o4 :: o5 :: o6 :: o7 :: o8 :: some (.int x) :: ls) (i := 9) hl2 (fun j w hj hw => by
      obtain rfl : j = 8 := by omega
      cases hw; exact h1)))
theorem r_iload10 {o0 o1 o2 o3 o4 o5 o6 o7 o8 o9 : Option Value} {x : Int32} (C : gC Z w cc own ret nL rm) (d : decode cc pc = .ok (.iload 10, 2)) (k : WW Z post (pc + 2) (o0 :: o1 :: o2 :: o3 :: o4 :: o5 :: o6 :: o7 :: o8 :: o9 :: some (.int x) :: ls) (.int x :: st) G) : WW Z post pc (o0 :: o1 :: o2 :: o3 :: o4 :: o5 :: o6 :: o7 :: o8 :: o9 :: some (.int x) :: ls) st G := by
  obtain ⟨Y, ⟨p, l, e, s, m, args, below, meth, c⟩, rm0, A⟩ := Z
  obtain ⟨⟨hx, hb⟩, -⟩ := C
  exact fun H locs la hP hS hl => lv_iload hx hb d (lh_at hl rfl) (k H locs la hP hS hl)
theorem r_istore10 {o0 o1 o2 o3 o4 o5 o6 o7 o8 o9 oo : Option Value} {x : Int32} (C : gC Z w cc own ret nL rm) (d : decode cc pc = .ok (.istore 10, 2)) (h1 : c1 o9 = true) (k : WW Z post (pc + 2) (o0 :: o1 :: o2 :: o3 :: o4 :: o5 :: o6 :: o7 :: o8 :: o9 :: some (.int x) :: ls) st G) : WW Z post pc (o0 :: o1 :: o2 :: o3 :: o4 :: o5 :: o6 :: o7 :: o8 :: o9 :: oo :: ls) (.int x :: st) G := by
  obtain ⟨Y, ⟨p, l, e, s, m, args, below, meth, c⟩, rm0, A⟩ := Z
  obtain ⟨⟨hx, hb⟩, -⟩ := C
  exact fun H locs la hP hS hl => lv_istore (i := 10) hx hb d hl (by simp only [List.length_cons]; omega) rfl (fun la2 hl2 => k H locs la2 hP hS (lh_s1 (ls := o0 :: o1 :: o2 :: o3 :: o4 :: o5 :: o6 :: o7 :: o8 :: o9 :: oo :: ls) (i := 10) hl2 (fun j w hj hw => by
      obtain rfl : j = 9 := by omega
      cases hw; exact h1)))
theorem r_iinc10 {o0 o1 o2 o3 o4 o5 o6 o7 o8 o9 : Option Value} {x : Int32} {n : Int} (v : Int32) (C : gC Z w cc own ret nL rm) (d : decode cc pc = .ok (.iinc 10 n, 3)) (hv : Int32.ofInt n = v) (h1 : c1 o9 = true) (k : WW Z post (pc + 3) (o0 :: o1 :: o2 :: o3 :: o4 :: o5 :: o6 :: o7 :: o8 :: o9 :: some (.int (x + v)) :: ls) st G) : WW Z post pc (o0 :: o1 :: o2 :: o3 :: o4 :: o5 :: o6 :: o7 :: o8 :: o9 :: some (.int x) :: ls) st G := by
  obtain ⟨Y, ⟨p, l, e, s, m, args, below, meth, c⟩, rm0, A⟩ := Z
  obtain ⟨⟨hx, hb⟩, -⟩ := C
  intro H locs la hP hS hl
  obtain ⟨j, hj⟩ := List.getElem?_of_mem ((prs_mem (o0 :: o1 :: o2 :: o3 :: o4 :: o5 :: o6 :: o7 :: o8 :: o9 :: some (.int x) :: ls) 0 10 (.int x)).mpr ⟨Nat.zero_le _, rfl⟩)
  exact lv_iinc (i := 10) hx hb d hl hj (by rw [hv]) (by simp only [List.length_cons]; omega) rfl (fun la2 hl2 => k H locs la2 hP hS (lh_s1 (ls := o0 :: o1 :: o2 :: o3 :: o4 :: o5 :: o6 :: o7 :: o8 :: o9 :: some (.int x) :: ls) (i := 10) hl2 (fun j w hj hw => by
      obtain rfl : j = 9 := by omega
      cases hw; exact h1)))
theorem r_iload11 {o0 o1 o2 o3 o4 o5 o6 o7 o8 o9 o10 : Option Value} {x : Int32} (C : gC Z w cc own ret nL rm) (d : decode cc pc = .ok (.iload 11, 2)) (k : WW Z post (pc + 2) (o0 :: o1 :: o2 :: o3 :: o4 :: o5 :: o6 :: o7 :: o8 :: o9 :: o10 :: some (.int x) :: ls) (.int x :: st) G) : WW Z post pc (o0 :: o1 :: o2 :: o3 :: o4 :: o5 :: o6 :: o7 :: o8 :: o9 :: o10 :: some (.int x) :: ls) st G := by
  obtain ⟨Y, ⟨p, l, e, s, m, args, below, meth, c⟩, rm0, A⟩ := Z
  obtain ⟨⟨hx, hb⟩, -⟩ := C
  exact fun H locs la hP hS hl => lv_iload hx hb d (lh_at hl rfl) (k H locs la hP hS hl)
theorem r_istore11 {o0 o1 o2 o3 o4 o5 o6 o7 o8 o9 o10 oo : Option Value} {x : Int32} (C : gC Z w cc own ret nL rm) (d : decode cc pc = .ok (.istore 11, 2)) (h1 : c1 o10 = true) (k : WW Z post (pc + 2) (o0 :: o1 :: o2 :: o3 :: o4 :: o5 :: o6 :: o7 :: o8 :: o9 :: o10 :: some (.int x) :: ls) st G) : WW Z post pc (o0 :: o1 :: o2 :: o3 :: o4 :: o5 :: o6 :: o7 :: o8 :: o9 :: o10 :: oo :: ls) (.int x :: st) G := by
  obtain ⟨Y, ⟨p, l, e, s, m, args, below, meth, c⟩, rm0, A⟩ := Z
  obtain ⟨⟨hx, hb⟩, -⟩ := C
  exact fun H locs la hP hS hl => lv_istore (i := 11) hx hb d hl (by simp only [List.length_cons]; omega) rfl (fun la2 hl2 => k H locs la2 hP hS (lh_s1 (ls := o0 :: o1 :: o2 :: o3 :: o4 :: o5 :: o6 :: o7 :: o8 :: o9 :: o10 :: oo :: ls) (i := 11) hl2 (fun j w hj hw => by
      obtain rfl : j = 10 := by omega
      cases hw; exact h1)))
theorem r_iinc11 {o0 o1 o2 o3 o4 o5 o6 o7 o8 o9 o10 : Option Value} {x : Int32} {n : Int} (v : Int32) (C : gC Z w cc own ret nL rm) (d : decode cc pc = .ok (.iinc 11 n, 3)) (hv : Int32.ofInt n = v) (h1 : c1 o10 = true) (k : WW Z post (pc + 3) (o0 :: o1 :: o2 :: o3 :: o4 :: o5 :: o6 :: o7 :: o8 :: o9 :: o10 :: some (.int (x + v)) :: ls) st G) : WW Z post pc (o0 :: o1 :: o2 :: o3 :: o4 :: o5 :: o6 :: o7 :: o8 :: o9 :: o10 :: some (.int x) :: ls) st G := by
  obtain ⟨Y, ⟨p, l, e, s, m, args, below, meth, c⟩, rm0, A⟩ := Z
  obtain ⟨⟨hx, hb⟩, -⟩ := C
  intro H locs la hP hS hl
  obtain ⟨j, hj⟩ := List.getElem?_of_mem ((prs_mem (o0 :: o1 :: o2 :: o3 :: o4 :: o5 :: o6 :: o7 :: o8 :: o9 :: o10 :: some (.int x) :: ls) 0 11 (.int x)).mpr ⟨Nat.zero_le _, rfl⟩)
  exact lv_iinc (i := 11) hx hb d hl hj (by rw [hv]) (by simp only [List.length_cons]; omega) rfl (fun la2 hl2 => k H locs la2 hP hS (lh_s1 (ls := o0 :: o1 :: o2 :: o3 :: o4 :: o5 :: o6 :: o7 :: o8 :: o9 :: o10 :: some (.int x) :: ls) (i := 11) hl2 (fun j w hj hw => by
      obtain rfl : j = 10 := by omega
      cases hw; exact h1)))
theorem r_iload12 {o0 o1 o2 o3 o4 o5 o6 o7 o8 o9 o10 o11 : Option Value} {x : Int32} (C : gC Z w cc own ret nL rm) (d : decode cc pc = .ok (.iload 12, 2)) (k : WW Z post (pc + 2) (o0 :: o1 :: o2 :: o3 :: o4 :: o5 :: o6 :: o7 :: o8 :: o9 :: o10 :: o11 :: some (.int x) :: ls) (.int x :: st) G) : WW Z post pc (o0 :: o1 :: o2 :: o3 :: o4 :: o5 :: o6 :: o7 :: o8 :: o9 :: o10 :: o11 :: some (.int x) :: ls) st G := by
  obtain ⟨Y, ⟨p, l, e, s, m, args, below, meth, c⟩, rm0, A⟩ := Z
  obtain ⟨⟨hx, hb⟩, -⟩ := C
  exact fun H locs la hP hS hl => lv_iload hx hb d (lh_at hl rfl) (k H locs la hP hS hl)
theorem r_istore12 {o0 o1 o2 o3 o4 o5 o6 o7 o8 o9 o10 o11 oo : Option Value} {x : Int32} (C : gC Z w cc own ret nL rm) (d : decode cc pc = .ok (.istore 12, 2)) (h1 : c1 o11 = true) (k : WW Z post (pc + 2) (o0 :: o1 :: o2 :: o3 :: o4 :: o5 :: o6 :: o7 :: o8 :: o9 :: o10 :: o11 :: some (.int x) :: ls) st G) : WW Z post pc (o0 :: o1 :: o2 :: o3 :: o4 :: o5 :: o6 :: o7 :: o8 :: o9 :: o10 :: o11 :: oo :: ls) (.int x :: st) G := by
  obtain ⟨Y, ⟨p, l, e, s, m, args, below, meth, c⟩, rm0, A⟩ := Z
  obtain ⟨⟨hx, hb⟩, -⟩ := C
  exact fun H locs la hP hS hl => lv_istore (i := 12) hx hb d hl (by simp only [List.length_cons]; omega) rfl (fun la2 hl2 => k H locs la2 hP hS (lh_s1 (ls := o0 :: o1 :: o2 :: o3 :: o4 :: o5 :: o6 :: o7 :: o8 :: o9 :: o10 :: o11 :: oo :: ls) (i := 12) hl2 (fun j w hj hw => by
      obtain rfl : j = 11 := by omega
      cases hw; exact h1)))
theorem r_iinc12 {o0 o1 o2 o3 o4 o5 o6 o7 o8 o9 o10 o11 : Option Value} {x : Int32} {n : Int} (v : Int32) (C : gC Z w cc own ret nL rm) (d : decode cc pc = .ok (.iinc 12 n, 3)) (hv : Int32.ofInt n = v) (h1 : c1 o11 = true) (k : WW Z post (pc + 3) (o0 :: o1 :: o2 :: o3 :: o4 :: o5 :: o6 :: o7 :: o8 :: o9 :: o10 :: o11 :: some (.int (x + v)) :: ls) st G) : WW Z post pc (o0 :: o1 :: o2 :: o3 :: o4 :: o5 :: o6 :: o7 :: o8 :: o9 :: o10 :: o11 :: some (.int x) :: ls) st G := by
  obtain ⟨Y, ⟨p, l, e, s, m, args, below, meth, c⟩, rm0, A⟩ := Z
  obtain ⟨⟨hx, hb⟩, -⟩ := C
  intro H locs la hP hS hl
  obtain ⟨j, hj⟩ := List.getElem?_of_mem ((prs_mem (o0 :: o1 :: o2 :: o3 :: o4 :: o5 :: o6 :: o7 :: o8 :: o9 :: o10 :: o11 :: some (.int x) :: ls) 0 12 (.int x)).mpr ⟨Nat.zero_le _, rfl⟩)
  exact lv_iinc (i := 12) hx hb d hl hj (by rw [hv]) (by simp only [List.length_cons]; omega) rfl (fun la2 hl2 => k H locs la2 hP hS (lh_s1 (ls := o0 :: o1 :: o2 :: o3 :: o4 :: o5 :: o6 :: o7 :: o8 :: o9 :: o10 :: o11 :: some (.int x) :: ls) (i := 12) hl2 (fun j w hj hw => by
      obtain rfl : j = 11 := by omega
      cases hw; exact h1)))
theorem r_iload13 {o0 o1 o2 o3 o4 o5 o6 o7 o8 o9 o10 o11 o12 : Option Value} {x : Int32} (C : gC Z w cc own ret nL rm) (d : decode cc pc = .ok (.iload 13, 2)) (k : WW Z post (pc + 2) (o0 :: o1 :: o2 :: o3 :: o4 :: o5 :: o6 :: o7 :: o8 :: o9 :: o10 :: o11 :: o12 :: some (.int x) :: ls) (.int x :: st) G) : WW Z post pc (o0 :: o1 :: o2 :: o3 :: o4 :: o5 :: o6 :: o7 :: o8 :: o9 :: o10 :: o11 :: o12 :: some (.int x) :: ls) st G := by
  obtain ⟨Y, ⟨p, l, e, s, m, args, below, meth, c⟩, rm0, A⟩ := Z
  obtain ⟨⟨hx, hb⟩, -⟩ := C
  exact fun H locs la hP hS hl => lv_iload hx hb d (lh_at hl rfl) (k H locs la hP hS hl)
theorem r_istore13 {o0 o1 o2 o3 o4 o5 o6 o7 o8 o9 o10 o11 o12 oo : Option Value} {x : Int32} (C : gC Z w cc own ret nL rm) (d : decode cc pc = .ok (.istore 13, 2)) (h1 : c1 o12 = true) (k : WW Z post (pc + 2) (o0 :: o1 :: o2 :: o3 :: o4 :: o5 :: o6 :: o7 :: o8 :: o9 :: o10 :: o11 :: o12 :: some (.int x) :: ls) st G) : WW Z post pc (o0 :: o1 :: o2 :: o3 :: o4 :: o5 :: o6 :: o7 :: o8 :: o9 :: o10 :: o11 :: o12 :: oo :: ls) (.int x :: st) G := by
  obtain ⟨Y, ⟨p, l, e, s, m, args, below, meth, c⟩, rm0, A⟩ := Z
  obtain ⟨⟨hx, hb⟩, -⟩ := C
  exact fun H locs la hP hS hl => lv_istore (i := 13) hx hb d hl (by simp only [List.length_cons]; omega) rfl (fun la2 hl2 => k H locs la2 hP hS (lh_s1 (ls := o0 :: o1 :: o2 :: o3 :: o4 :: o5 :: o6 :: o7 :: o8 :: o9 :: o10 :: o11 :: o12 :: oo :: ls) (i := 13) hl2 (fun j w hj hw => by
      obtain rfl : j = 12 := by omega
      cases hw; exact h1)))
theorem r_iinc13 {o0 o1 o2 o3 o4 o5 o6 o7 o8 o9 o10 o11 o12 : Option Value} {x : Int32} {n : Int} (v : Int32) (C : gC Z w cc own ret nL rm) (d : decode cc pc = .ok (.iinc 13 n, 3)) (hv : Int32.ofInt n = v) (h1 : c1 o12 = true) (k : WW Z post (pc + 3) (o0 :: o1 :: o2 :: o3 :: o4 :: o5 :: o6 :: o7 :: o8 :: o9 :: o10 :: o11 :: o12 :: some (.int (x + v)) :: ls) st G) : WW Z post pc (o0 :: o1 :: o2 :: o3 :: o4 :: o5 :: o6 :: o7 :: o8 :: o9 :: o10 :: o11 :: o12 :: some (.int x) :: ls) st G := by
  obtain ⟨Y, ⟨p, l, e, s, m, args, below, meth, c⟩, rm0, A⟩ := Z
  obtain ⟨⟨hx, hb⟩, -⟩ := C
  intro H locs la hP hS hl
  obtain ⟨j, hj⟩ := List.getElem?_of_mem ((prs_mem (o0 :: o1 :: o2 :: o3 :: o4 :: o5 :: o6 :: o7 :: o8 :: o9 :: o10 :: o11 :: o12 :: some (.int x) :: ls) 0 13 (.int x)).mpr ⟨Nat.zero_le _, rfl⟩)
  exact lv_iinc (i := 13) hx hb d hl hj (by rw [hv]) (by simp only [List.length_cons]; omega) rfl (fun la2 hl2 => k H locs la2 hP hS (lh_s1 (ls := o0 :: o1 :: o2 :: o3 :: o4 :: o5 :: o6 :: o7 :: o8 :: o9 :: o10 :: o11 :: o12 :: some (.int x) :: ls) (i := 13) hl2 (fun j w hj hw => by
      obtain rfl : j = 12 := by omega
      cases hw; exact h1)))
theorem r_lload0 {x : Int64} (C : gC Z w cc own ret nL rm) (d : decode cc pc = .ok (.lload_n 0, 1)) (k : WW Z post (pc + 1) (some (.long x) :: ls) (.long x :: st) G) : WW Z post pc (some (.long x) :: ls) st G := by
  obtain ⟨Y, ⟨p, l, e, s, m, args, below, meth, c⟩, rm0, A⟩ := Z
  obtain ⟨⟨hx, hb⟩, -⟩ := C
  exact fun H locs la hP hS hl => lv_lload_n hx hb d rfl (lh_at hl rfl) (k H locs la hP hS hl)
theorem r_lstore0 {oo ox : Option Value} {x : Int64} (C : gC Z w cc own ret nL rm) (d : decode cc pc = .ok (.lstore_n 0, 1)) (k : WW Z post (pc + 1) (some (.long x) :: none :: ls) st G) : WW Z post pc (oo :: ox :: ls) (.long x :: st) G := by
  obtain ⟨Y, ⟨p, l, e, s, m, args, below, meth, c⟩, rm0, A⟩ := Z
  obtain ⟨⟨hx, hb⟩, -⟩ := C
  exact fun H locs la hP hS hl => lv_lstore_n (i := 0) hx hb d rfl hl (by simp only [List.length_cons]; omega) rfl (fun la2 hl2 => k H locs la2 hP hS (lh_s2 (ls := oo :: ox :: ls) (i := 0) hl2 (fun j w hj hw => by omega)))
theorem r_lload1 {o0 : Option Value} {x : Int64} (C : gC Z w cc own ret nL rm) (d : decode cc pc = .ok (.lload_n 1, 1)) (k : WW Z post (pc + 1) (o0 :: some (.long x) :: ls) (.long x :: st) G) : WW Z post pc (o0 :: some (.long x) :: ls) st G := by
  obtain ⟨Y, ⟨p, l, e, s, m, args, below, meth, c⟩, rm0, A⟩ := Z
  obtain ⟨⟨hx, hb⟩, -⟩ := C
  exact fun H locs la hP hS hl => lv_lload_n hx hb d rfl (lh_at hl rfl) (k H locs la hP hS hl)
theorem r_lstore1 {o0 oo ox : Option Value} {x : Int64} (C : gC Z w cc own ret nL rm) (d : decode cc pc = .ok (.lstore_n 1, 1)) (h1 : c1 o0 = true) (k : WW Z post (pc + 1) (o0 :: some (.long x) :: none :: ls) st G) : WW Z post pc (o0 :: oo :: ox :: ls) (.long x :: st) G := by
  obtain ⟨Y, ⟨p, l, e, s, m, args, below, meth, c⟩, rm0, A⟩ := Z
  obtain ⟨⟨hx, hb⟩, -⟩ := C
  exact fun H locs la hP hS hl => lv_lstore_n (i := 1) hx hb d rfl hl (by simp only [List.length_cons]; omega) rfl (fun la2 hl2 => k H locs la2 hP hS (lh_s2 (ls := o0 :: oo :: ox :: ls) (i := 1) hl2 (fun j w hj hw => by
      obtain rfl : j = 0 := by omega
      cases hw; exact h1)))
theorem r_lload2 {o0 o1 : Option Value} {x : Int64} (C : gC Z w cc own ret nL rm) (d : decode cc pc = .ok (.lload_n 2, 1)) (k : WW Z post (pc + 1) (o0 :: o1 :: some (.long x) :: ls) (.long x :: st) G) : WW Z post pc (o0 :: o1 :: some (.long x) :: ls) st G := by
  obtain ⟨Y, ⟨p, l, e, s, m, args, below, meth, c⟩, rm0, A⟩ := Z
  obtain ⟨⟨hx, hb⟩, -⟩ := C
  exact fun H locs la hP hS hl => lv_lload_n hx hb d rfl (lh_at hl rfl) (k H locs la hP hS hl)
theorem r_lstore2 {o0 o1 oo ox : Option Value} {x : Int64} (C : gC Z w cc own ret nL rm) (d : decode cc pc = .ok (.lstore_n 2, 1)) (h1 : c1 o1 = true) (k : WW Z post (pc + 1) (o0 :: o1 :: some (.long x) :: none :: ls) st G) : WW Z post pc (o0 :: o1 :: oo :: ox :: ls) (.long x :: st) G := by
  obtain ⟨Y, ⟨p, l, e, s, m, args, below, meth, c⟩, rm0, A⟩ := Z
  obtain ⟨⟨hx, hb⟩, -⟩ := C
  exact fun H locs la hP hS hl => lv_lstore_n (i := 2) hx hb d rfl hl (by simp only [List.length_cons]; omega) rfl (fun la2 hl2 => k H locs la2 hP hS (lh_s2 (ls := o0 :: o1 :: oo :: ox :: ls) (i := 2) hl2 (fun j w hj hw => by
      obtain rfl : j = 1 := by omega
      cases hw; exact h1)))
theorem r_lload3 {o0 o1 o2 : Option Value} {x : Int64} (C : gC Z w cc own ret nL rm) (d : decode cc pc = .ok (.lload_n 3, 1)) (k : WW Z post (pc + 1) (o0 :: o1 :: o2 :: some (.long x) :: ls) (.long x :: st) G) : WW Z post pc (o0 :: o1 :: o2 :: some (.long x) :: ls) st G := by
  obtain ⟨Y, ⟨p, l, e, s, m, args, below, meth, c⟩, rm0, A⟩ := Z
  obtain ⟨⟨hx, hb⟩, -⟩ := C
  exact fun H locs la hP hS hl => lv_lload_n hx hb d rfl (lh_at hl rfl) (k H locs la hP hS hl)
theorem r_lstore3 {o0 o1 o2 oo ox : Option Value} {x : Int64} (C : gC Z w cc own ret nL rm) (d : decode cc pc = .ok (.lstore_n 3, 1)) (h1 : c1 o2 = true) (k : WW Z post (pc + 1) (o0 :: o1 :: o2 :: some (.long x) :: none :: ls) st G) : WW Z post pc (o0 :: o1 :: o2 :: oo :: ox :: ls) (.long x :: st) G := by
  obtain ⟨Y, ⟨p, l, e, s, m, args, below, meth, c⟩, rm0, A⟩ := Z
  obtain ⟨⟨hx, hb⟩, -⟩ := C
  exact fun H locs la hP hS hl => lv_lstore_n (i := 3) hx hb d rfl hl (by simp only [List.length_cons]; omega) rfl (fun la2 hl2 => k H locs la2 hP hS (lh_s2 (ls := o0 :: o1 :: o2 :: oo :: ox :: ls) (i := 3) hl2 (fun j w hj hw => by
      obtain rfl : j = 2 := by omega
      cases hw; exact h1)))
theorem r_lload4 {o0 o1 o2 o3 : Option Value} {x : Int64} (C : gC Z w cc own ret nL rm) (d : decode cc pc = .ok (.lload 4, 2)) (k : WW Z post (pc + 2) (o0 :: o1 :: o2 :: o3 :: some (.long x) :: ls) (.long x :: st) G) : WW Z post pc (o0 :: o1 :: o2 :: o3 :: some (.long x) :: ls) st G := by
  obtain ⟨Y, ⟨p, l, e, s, m, args, below, meth, c⟩, rm0, A⟩ := Z
  obtain ⟨⟨hx, hb⟩, -⟩ := C
  exact fun H locs la hP hS hl => lv_lload hx hb d (lh_at hl rfl) (k H locs la hP hS hl)
theorem r_lstore4 {o0 o1 o2 o3 oo ox : Option Value} {x : Int64} (C : gC Z w cc own ret nL rm) (d : decode cc pc = .ok (.lstore 4, 2)) (h1 : c1 o3 = true) (k : WW Z post (pc + 2) (o0 :: o1 :: o2 :: o3 :: some (.long x) :: none :: ls) st G) : WW Z post pc (o0 :: o1 :: o2 :: o3 :: oo :: ox :: ls) (.long x :: st) G := by
  obtain ⟨Y, ⟨p, l, e, s, m, args, below, meth, c⟩, rm0, A⟩ := Z
  obtain ⟨⟨hx, hb⟩, -⟩ := C
  exact fun H locs la hP hS hl => lv_lstore (i := 4) hx hb d hl (by simp only [List.length_cons]; omega) rfl (fun la2 hl2 => k H locs la2 hP hS (lh_s2 (ls := o0 :: o1 :: o2 :: o3 :: oo :: ox :: ls) (i := 4) hl2 (fun j w hj hw => by
      obtain rfl : j = 3 := by omega
      cases hw; exact h1)))
theorem r_lload5 {o0 o1 o2 o3 o4 : Option Value} {x : Int64} (C : gC Z w cc own ret nL rm) (d : decode cc pc = .ok (.lload 5, 2)) (k : WW Z post (pc + 2) (o0 :: o1 :: o2 :: o3 :: o4 :: some (.long x) :: ls) (.long x :: st) G) : WW Z post pc (o0 :: o1 :: o2 :: o3 :: o4 :: some (.long x) :: ls) st G := by
  obtain ⟨Y, ⟨p, l, e, s, m, args, below, meth, c⟩, rm0, A⟩ := Z
  obtain ⟨⟨hx, hb⟩, -⟩ := C
  exact fun H locs la hP hS hl => lv_lload hx hb d (lh_at hl rfl) (k H locs la hP hS hl)
theorem r_lstore5 {o0 o1 o2 o3 o4 oo ox : Option Value} {x : Int64} (C : gC Z w cc own ret nL rm) (d : decode cc pc = .ok (.lstore 5, 2)) (h1 : c1 o4 = true) (k : WW Z post (pc + 2) (o0 :: o1 :: o2 :: o3 :: o4 :: some (.long x) :: none :: ls) st G) : WW Z post pc (o0 :: o1 :: o2 :: o3 :: o4 :: oo :: ox :: ls) (.long x :: st) G := by
  obtain ⟨Y, ⟨p, l, e, s, m, args, below, meth, c⟩, rm0, A⟩ := Z
  obtain ⟨⟨hx, hb⟩, -⟩ := C
  exact fun H locs la hP hS hl => lv_lstore (i := 5) hx hb d hl (by simp only [List.length_cons]; omega) rfl (fun la2 hl2 => k H locs la2 hP hS (lh_s2 (ls := o0 :: o1 :: o2 :: o3 :: o4 :: oo :: ox :: ls) (i := 5) hl2 (fun j w hj hw => by
      obtain rfl : j = 4 := by omega
      cases hw; exact h1)))
theorem r_lload6 {o0 o1 o2 o3 o4 o5 : Option Value} {x : Int64} (C : gC Z w cc own ret nL rm) (d : decode cc pc = .ok (.lload 6, 2)) (k : WW Z post (pc + 2) (o0 :: o1 :: o2 :: o3 :: o4 :: o5 :: some (.long x) :: ls) (.long x :: st) G) : WW Z post pc (o0 :: o1 :: o2 :: o3 :: o4 :: o5 :: some (.long x) :: ls) st G := by
  obtain ⟨Y, ⟨p, l, e, s, m, args, below, meth, c⟩, rm0, A⟩ := Z
  obtain ⟨⟨hx, hb⟩, -⟩ := C
  exact fun H locs la hP hS hl => lv_lload hx hb d (lh_at hl rfl) (k H locs la hP hS hl)
theorem r_lstore6 {o0 o1 o2 o3 o4 o5 oo ox : Option Value} {x : Int64} (C : gC Z w cc own ret nL rm) (d : decode cc pc = .ok (.lstore 6, 2)) (h1 : c1 o5 = true) (k : WW Z post (pc + 2) (o0 :: o1 :: o2 :: o3 :: o4 :: o5 :: some (.long x) :: none :: ls) st G) : WW Z post pc (o0 :: o1 :: o2 :: o3 :: o4 :: o5 :: oo :: ox :: ls) (.long x :: st) G := by
  obtain ⟨Y, ⟨p, l, e, s, m, args, below, meth, c⟩, rm0, A⟩ := Z
  obtain ⟨⟨hx, hb⟩, -⟩ := C
  exact fun H locs la hP hS hl => lv_lstore (i := 6) hx hb d hl (by simp only [List.length_cons]; omega) rfl (fun la2 hl2 => k H locs la2 hP hS (lh_s2 (ls := o0 :: o1 :: o2 :: o3 :: o4 :: o5 :: oo :: ox :: ls) (i := 6) hl2 (fun j w hj hw => by
      obtain rfl : j = 5 := by omega
      cases hw; exact h1)))
theorem r_lload7 {o0 o1 o2 o3 o4 o5 o6 : Option Value} {x : Int64} (C : gC Z w cc own ret nL rm) (d : decode cc pc = .ok (.lload 7, 2)) (k : WW Z post (pc + 2) (o0 :: o1 :: o2 :: o3 :: o4 :: o5 :: o6 :: some (.long x) :: ls) (.long x :: st) G) : WW Z post pc (o0 :: o1 :: o2 :: o3 :: o4 :: o5 :: o6 :: some (.long x) :: ls) st G := by
  obtain ⟨Y, ⟨p, l, e, s, m, args, below, meth, c⟩, rm0, A⟩ := Z
  obtain ⟨⟨hx, hb⟩, -⟩ := C
  exact fun H locs la hP hS hl => lv_lload hx hb d (lh_at hl rfl) (k H locs la hP hS hl)
theorem r_lstore7 {o0 o1 o2 o3 o4 o5 o6 oo ox : Option Value} {x : Int64} (C : gC Z w cc own ret nL rm) (d : decode cc pc = .ok (.lstore 7, 2)) (h1 : c1 o6 = true) (k : WW Z post (pc + 2) (o0 :: o1 :: o2 :: o3 :: o4 :: o5 :: o6 :: some (.long x) :: none :: ls) st G) : WW Z post pc (o0 :: o1 :: o2 :: o3 :: o4 :: o5 :: o6 :: oo :: ox :: ls) (.long x :: st) G := by
  obtain ⟨Y, ⟨p, l, e, s, m, args, below, meth, c⟩, rm0, A⟩ := Z
  obtain ⟨⟨hx, hb⟩, -⟩ := C
  exact fun H locs la hP hS hl => lv_lstore (i := 7) hx hb d hl (by simp only [List.length_cons]; omega) rfl (fun la2 hl2 => k H locs la2 hP hS (lh_s2 (ls := o0 :: o1 :: o2 :: o3 :: o4 :: o5 :: o6 :: oo :: ox :: ls) (i := 7) hl2 (fun j w hj hw => by
      obtain rfl : j = 6 := by omega
      cases hw; exact h1)))
theorem r_lload8 {o0 o1 o2 o3 o4 o5 o6 o7 : Option Value} {x : Int64} (C : gC Z w cc own ret nL rm) (d : decode cc pc = .ok (.lload 8, 2)) (k : WW Z post (pc + 2) (o0 :: o1 :: o2 :: o3 :: o4 :: o5 :: o6 :: o7 :: some (.long x) :: ls) (.long x :: st) G) : WW Z post pc (o0 :: o1 :: o2 :: o3 :: o4 :: o5 :: o6 :: o7 :: some (.long x) :: ls) st G := by
  obtain ⟨Y, ⟨p, l, e, s, m, args, below, meth, c⟩, rm0, A⟩ := Z
  obtain ⟨⟨hx, hb⟩, -⟩ := C
  exact fun H locs la hP hS hl => lv_lload hx hb d (lh_at hl rfl) (k H locs la hP hS hl)
theorem r_lstore8 {o0 o1 o2 o3 o4 o5 o6 o7 oo ox : Option Value} {x : Int64} (C : gC Z w cc own ret nL rm) (d : decode cc pc = .ok (.lstore 8, 2)) (h1 : c1 o7 = true) (k : WW Z post (pc + 2) (o0 :: o1 :: o2 :: o3 :: o4 :: o5 :: o6 :: o7 :: some (.long x) :: none :: ls) st G) : WW Z post pc (o0 :: o1 :: o2 :: o3 :: o4 :: o5 :: o6 :: o7 :: oo :: ox :: ls) (.long x :: st) G := by
  obtain ⟨Y, ⟨p, l, e, s, m, args, below, meth, c⟩, rm0, A⟩ := Z
  obtain ⟨⟨hx, hb⟩, -⟩ := C
  exact fun H locs la hP hS hl => lv_lstore (i := 8) hx hb d hl (by simp only [List.length_cons]; omega) rfl (fun la2 hl2 => k H locs la2 hP hS (lh_s2 (ls := o0 :: o1 :: o2 :: o3 :: o4 :: o5 :: o6 :: o7 :: oo :: ox :: ls) (i := 8) hl2 (fun j w hj hw => by
      obtain rfl : j = 7 := by omega
      cases hw; exact h1)))
theorem r_lload9 {o0 o1 o2 o3 o4 o5 o6 o7 o8 : Option Value} {x : Int64} (C : gC Z w cc own ret nL rm) (d : decode cc pc = .ok (.lload 9, 2)) (k : WW Z post (pc + 2) (o0 :: o1 :: o2 :: o3 :: o4 :: o5 :: o6 :: o7 :: o8 :: some (.long x) :: ls) (.long x :: st) G) : WW Z post pc (o0 :: o1 :: o2 :: o3 :: o4 :: o5 :: o6 :: o7 :: o8 :: some (.long x) :: ls) st G := by
  obtain ⟨Y, ⟨p, l, e, s, m, args, below, meth, c⟩, rm0, A⟩ := Z
  obtain ⟨⟨hx, hb⟩, -⟩ := C
  exact fun H locs la hP hS hl => lv_lload hx hb d (lh_at hl rfl) (k H locs la hP hS hl)
theorem r_lstore9 {o0 o1 o2 o3 o4 o5 o6 o7 o8 oo ox : Option Value} {x : Int64} (C : gC Z w cc own ret nL rm) (d : decode cc pc = .ok (.lstore 9, 2)) (h1 : c1 o8 = true) (k : WW Z post (pc + 2) (o0 :: o1 :: o2 :: o3 :: o4 :: o5 :: o6 :: o7 :: o8 :: some (.long x) :: none :: ls) st G) : WW Z post pc (o0 :: o1 :: o2 :: o3 :: o4 :: o5 :: o6 :: o7 :: o8 :: oo :: ox :: ls) (.long x :: st) G := by
  obtain ⟨Y, ⟨p, l, e, s, m, args, below, meth, c⟩, rm0, A⟩ := Z
  obtain ⟨⟨hx, hb⟩, -⟩ := C
  exact fun H locs la hP hS hl => lv_lstore (i := 9) hx hb d hl (by simp only [List.length_cons]; omega) rfl (fun la2 hl2 => k H locs la2 hP hS (lh_s2 (ls := o0 :: o1 :: o2 :: o3 :: o4 :: o5 :: o6 :: o7 :: o8 :: oo :: ox :: ls) (i := 9) hl2 (fun j w hj hw => by
      obtain rfl : j = 8 := by omega
      cases hw; exact h1)))
theorem r_lload10 {o0 o1 o2 o3 o4 o5 o6 o7 o8 o9 : Option Value} {x : Int64} (C : gC Z w cc own ret nL rm) (d : decode cc pc = .ok (.lload 10, 2)) (k : WW Z post (pc + 2) (o0 :: o1 :: o2 :: o3 :: o4 :: o5 :: o6 :: o7 :: o8 :: o9 :: some (.long x) :: ls) (.long x :: st) G) : WW Z post pc (o0 :: o1 :: o2 :: o3 :: o4 :: o5 :: o6 :: o7 :: o8 :: o9 :: some (.long x) :: ls) st G := by
  obtain ⟨Y, ⟨p, l, e, s, m, args, below, meth, c⟩, rm0, A⟩ := Z
  obtain ⟨⟨hx, hb⟩, -⟩ := C
  exact fun H locs la hP hS hl => lv_lload hx hb d (lh_at hl rfl) (k H locs la hP hS hl)
theorem r_lstore10 {o0 o1 o2 o3 o4 o5 o6 o7 o8 o9 oo ox : Option Value} {x : Int64} (C : gC Z w cc own ret nL rm) (d : decode cc pc = .ok (.lstore 10, 2)) (h1 : c1 o9 = true) (k : WW Z post (pc + 2) (o0 :: o1 :: o2 :: o3 :: o4 :: o5 :: o6 :: o7 :: o8 :: o9 :: some (.long x) :: none :: ls) st G) : WW Z post pc (o0 :: o1 :: o2 :: o3 :: o4 :: o5 :: o6 :: o7 :: o8 :: o9 :: oo :: ox :: ls) (.long x :: st) G := by
  obtain ⟨Y, ⟨p, l, e, s, m, args, below, meth, c⟩, rm0, A⟩ := Z
  obtain ⟨⟨hx, hb⟩, -⟩ := C
  exact fun H locs la hP hS hl => lv_lstore (i := 10) hx hb d hl (by simp only [List.length_cons]; omega) rfl (fun la2 hl2 => k H locs la2 hP hS (lh_s2 (ls := o0 :: o1 :: o2 :: o3 :: o4 :: o5 :: o6 :: o7 :: o8 :: o9 :: oo :: ox :: ls) (i := 10) hl2 (fun j w hj hw => by
      obtain rfl : j = 9 := by omega
      cases hw; exact h1)))
theorem r_lload11 {o0 o1 o2 o3 o4 o5 o6 o7 o8 o9 o10 : Option Value} {x : Int64} (C : gC Z w cc own ret nL rm) (d : decode cc pc = .ok (.lload 11, 2)) (k : WW Z post (pc + 2) (o0 :: o1 :: o2 :: o3 :: o4 :: o5 :: o6 :: o7 :: o8 :: o9 :: o10 :: some (.long x) :: ls) (.long x :: st) G) : WW Z post pc (o0 :: o1 :: o2 :: o3 :: o4 :: o5 :: o6 :: o7 :: o8 :: o9 :: o10 :: some (.long x) :: ls) st G := by
  obtain ⟨Y, ⟨p, l, e, s, m, args, below, meth, c⟩, rm0, A⟩ := Z
  obtain ⟨⟨hx, hb⟩, -⟩ := C
  exact fun H locs la hP hS hl => lv_lload hx hb d (lh_at hl rfl) (k H locs la hP hS hl)
theorem r_lstore11 {o0 o1 o2 o3 o4 o5 o6 o7 o8 o9 o10 oo ox : Option Value} {x : Int64} (C : gC Z w cc own ret nL rm) (d : decode cc pc = .ok (.lstore 11, 2)) (h1 : c1 o10 = true) (k : WW Z post (pc + 2) (o0 :: o1 :: o2 :: o3 :: o4 :: o5 :: o6 :: o7 :: o8 :: o9 :: o10 :: some (.long x) :: none :: ls) st G) : WW Z post pc (o0 :: o1 :: o2 :: o3 :: o4 :: o5 :: o6 :: o7 :: o8 :: o9 :: o10 :: oo :: ox :: ls) (.long x :: st) G := by
  obtain ⟨Y, ⟨p, l, e, s, m, args, below, meth, c⟩, rm0, A⟩ := Z
  obtain ⟨⟨hx, hb⟩, -⟩ := C
  exact fun H locs la hP hS hl => lv_lstore (i := 11) hx hb d hl (by simp only [List.length_cons]; omega) rfl (fun la2 hl2 => k H locs la2 hP hS (lh_s2 (ls := o0 :: o1 :: o2 :: o3 :: o4 :: o5 :: o6 :: o7 :: o8 :: o9 :: o10 :: oo :: ox :: ls) (i := 11) hl2 (fun j w hj hw => by
      obtain rfl : j = 10 := by omega
      cases hw; exact h1)))
theorem r_lload12 {o0 o1 o2 o3 o4 o5 o6 o7 o8 o9 o10 o11 : Option Value} {x : Int64} (C : gC Z w cc own ret nL rm) (d : decode cc pc = .ok (.lload 12, 2)) (k : WW Z post (pc + 2) (o0 :: o1 :: o2 :: o3 :: o4 :: o5 :: o6 :: o7 :: o8 :: o9 :: o10 :: o11 :: some (.long x) :: ls) (.long x :: st) G) : WW Z post pc (o0 :: o1 :: o2 :: o3 :: o4 :: o5 :: o6 :: o7 :: o8 :: o9 :: o10 :: o11 :: some (.long x) :: ls) st G := by
  obtain ⟨Y, ⟨p, l, e, s, m, args, below, meth, c⟩, rm0, A⟩ := Z
  obtain ⟨⟨hx, hb⟩, -⟩ := C
  exact fun H locs la hP hS hl => lv_lload hx hb d (lh_at hl rfl) (k H locs la hP hS hl)
theorem r_lstore12 {o0 o1 o2 o3 o4 o5 o6 o7 o8 o9 o10 o11 oo ox : Option Value} {x : Int64} (C : gC Z w cc own ret nL rm) (d : decode cc pc = .ok (.lstore 12, 2)) (h1 : c1 o11 = true) (k : WW Z post (pc + 2) (o0 :: o1 :: o2 :: o3 :: o4 :: o5 :: o6 :: o7 :: o8 :: o9 :: o10 :: o11 :: some (.long x) :: none :: ls) st G) : WW Z post pc (o0 :: o1 :: o2 :: o3 :: o4 :: o5 :: o6 :: o7 :: o8 :: o9 :: o10 :: o11 :: oo :: ox :: ls) (.long x :: st) G := by
  obtain ⟨Y, ⟨p, l, e, s, m, args, below, meth, c⟩, rm0, A⟩ := Z
  obtain ⟨⟨hx, hb⟩, -⟩ := C
  exact fun H locs la hP hS hl => lv_lstore (i := 12) hx hb d hl (by simp only [List.length_cons]; omega) rfl (fun la2 hl2 => k H locs la2 hP hS (lh_s2 (ls := o0 :: o1 :: o2 :: o3 :: o4 :: o5 :: o6 :: o7 :: o8 :: o9 :: o10 :: o11 :: oo :: ox :: ls) (i := 12) hl2 (fun j w hj hw => by
      obtain rfl : j = 11 := by omega
      cases hw; exact h1)))
theorem r_lload13 {o0 o1 o2 o3 o4 o5 o6 o7 o8 o9 o10 o11 o12 : Option Value} {x : Int64} (C : gC Z w cc own ret nL rm) (d : decode cc pc = .ok (.lload 13, 2)) (k : WW Z post (pc + 2) (o0 :: o1 :: o2 :: o3 :: o4 :: o5 :: o6 :: o7 :: o8 :: o9 :: o10 :: o11 :: o12 :: some (.long x) :: ls) (.long x :: st) G) : WW Z post pc (o0 :: o1 :: o2 :: o3 :: o4 :: o5 :: o6 :: o7 :: o8 :: o9 :: o10 :: o11 :: o12 :: some (.long x) :: ls) st G := by
  obtain ⟨Y, ⟨p, l, e, s, m, args, below, meth, c⟩, rm0, A⟩ := Z
  obtain ⟨⟨hx, hb⟩, -⟩ := C
  exact fun H locs la hP hS hl => lv_lload hx hb d (lh_at hl rfl) (k H locs la hP hS hl)
theorem r_lstore13 {o0 o1 o2 o3 o4 o5 o6 o7 o8 o9 o10 o11 o12 oo ox : Option Value} {x : Int64} (C : gC Z w cc own ret nL rm) (d : decode cc pc = .ok (.lstore 13, 2)) (h1 : c1 o12 = true) (k : WW Z post (pc + 2) (o0 :: o1 :: o2 :: o3 :: o4 :: o5 :: o6 :: o7 :: o8 :: o9 :: o10 :: o11 :: o12 :: some (.long x) :: none :: ls) st G) : WW Z post pc (o0 :: o1 :: o2 :: o3 :: o4 :: o5 :: o6 :: o7 :: o8 :: o9 :: o10 :: o11 :: o12 :: oo :: ox :: ls) (.long x :: st) G := by
  obtain ⟨Y, ⟨p, l, e, s, m, args, below, meth, c⟩, rm0, A⟩ := Z
  obtain ⟨⟨hx, hb⟩, -⟩ := C
  exact fun H locs la hP hS hl => lv_lstore (i := 13) hx hb d hl (by simp only [List.length_cons]; omega) rfl (fun la2 hl2 => k H locs la2 hP hS (lh_s2 (ls := o0 :: o1 :: o2 :: o3 :: o4 :: o5 :: o6 :: o7 :: o8 :: o9 :: o10 :: o11 :: o12 :: oo :: ox :: ls) (i := 13) hl2 (fun j w hj hw => by
      obtain rfl : j = 12 := by omega
      cases hw; exact h1)))
theorem r_aload0 {x : Nat} (C : gC Z w cc own ret nL rm) (d : decode cc pc = .ok (.aload_n 0, 1)) (k : WW Z post (pc + 1) (some (.ref x) :: ls) (.ref x :: st) G) : WW Z post pc (some (.ref x) :: ls) st G := by
  obtain ⟨Y, ⟨p, l, e, s, m, args, below, meth, c⟩, rm0, A⟩ := Z
  obtain ⟨⟨hx, hb⟩, -⟩ := C
  exact fun H locs la hP hS hl => lv_aload_n hx hb d rfl (lh_at hl rfl) (k H locs la hP hS hl)
theorem r_astore0 {oo : Option Value} {x : Nat} (C : gC Z w cc own ret nL rm) (d : decode cc pc = .ok (.astore_n 0, 1)) (k : WW Z post (pc + 1) (some (.ref x) :: ls) st G) : WW Z post pc (oo :: ls) (.ref x :: st) G := by
  obtain ⟨Y, ⟨p, l, e, s, m, args, below, meth, c⟩, rm0, A⟩ := Z
  obtain ⟨⟨hx, hb⟩, -⟩ := C
  exact fun H locs la hP hS hl => lv_astore_n (i := 0) hx hb d rfl hl (by simp only [List.length_cons]; omega) rfl (fun la2 hl2 => k H locs la2 hP hS (lh_s1 (ls := oo :: ls) (i := 0) hl2 (fun j w hj hw => by omega)))
theorem r_aload1 {o0 : Option Value} {x : Nat} (C : gC Z w cc own ret nL rm) (d : decode cc pc = .ok (.aload_n 1, 1)) (k : WW Z post (pc + 1) (o0 :: some (.ref x) :: ls) (.ref x :: st) G) : WW Z post pc (o0 :: some (.ref x) :: ls) st G := by
  obtain ⟨Y, ⟨p, l, e, s, m, args, below, meth, c⟩, rm0, A⟩ := Z
  obtain ⟨⟨hx, hb⟩, -⟩ := C
  exact fun H locs la hP hS hl => lv_aload_n hx hb d rfl (lh_at hl rfl) (k H locs la hP hS hl)
theorem r_astore1 {o0 oo : Option Value} {x : Nat} (C : gC Z w cc own ret nL rm) (d : decode cc pc = .ok (.astore_n 1, 1)) (h1 : c1 o0 = true) (k : WW Z post (pc + 1) (o0 :: some (.ref x) :: ls) st G) : WW Z post pc (o0 :: oo :: ls) (.ref x :: st) G := by
  obtain ⟨Y, ⟨p, l, e, s, m, args, below, meth, c⟩, rm0, A⟩ := Z
  obtain ⟨⟨hx, hb⟩, -⟩ := C
  exact fun H locs la hP hS hl => lv_astore_n (i := 1) hx hb d rfl hl (by simp only [List.length_cons]; omega) rfl (fun la2 hl2 => k H locs la2 hP hS (lh_s1 (ls := o0 :: oo :: ls) (i := 1) hl2 (fun j w hj hw => by
      obtain rfl : j = 0 := by omega
      cases hw; exact h1)))
theorem r_aload2 {o0 o1 : Option Value} {x : Nat} (C : gC Z w cc own ret nL rm) (d : decode cc pc = .ok (.aload_n 2, 1)) (k : WW Z post (pc + 1) (o0 :: o1 :: some (.ref x) :: ls) (.ref x :: st) G) : WW Z post pc (o0 :: o1 :: some (.ref x) :: ls) st G := by
  obtain ⟨Y, ⟨p, l, e, s, m, args, below, meth, c⟩, rm0, A⟩ := Z
  obtain ⟨⟨hx, hb⟩, -⟩ := C
  exact fun H locs la hP hS hl => lv_aload_n hx hb d rfl (lh_at hl rfl) (k H locs la hP hS hl)
theorem r_astore2 {o0 o1 oo : Option Value} {x : Nat} (C : gC Z w cc own ret nL rm) (d : decode cc pc = .ok (.astore_n 2, 1)) (h1 : c1 o1 = true) (k : WW Z post (pc + 1) (o0 :: o1 :: some (.ref x) :: ls) st G) : WW Z post pc (o0 :: o1 :: oo :: ls) (.ref x :: st) G := by
  obtain ⟨Y, ⟨p, l, e, s, m, args, below, meth, c⟩, rm0, A⟩ := Z
  obtain ⟨⟨hx, hb⟩, -⟩ := C
  exact fun H locs la hP hS hl => lv_astore_n (i := 2) hx hb d rfl hl (by simp only [List.length_cons]; omega) rfl (fun la2 hl2 => k H locs la2 hP hS (lh_s1 (ls := o0 :: o1 :: oo :: ls) (i := 2) hl2 (fun j w hj hw => by
      obtain rfl : j = 1 := by omega
      cases hw; exact h1)))
theorem r_aload3 {o0 o1 o2 : Option Value} {x : Nat} (C : gC Z w cc own ret nL rm) (d : decode cc pc = .ok (.aload_n 3, 1)) (k : WW Z post (pc + 1) (o0 :: o1 :: o2 :: some (.ref x) :: ls) (.ref x :: st) G) : WW Z post pc (o0 :: o1 :: o2 :: some (.ref x) :: ls) st G := by
  obtain ⟨Y, ⟨p, l, e, s, m, args, below, meth, c⟩, rm0, A⟩ := Z
  obtain ⟨⟨hx, hb⟩, -⟩ := C
  exact fun H locs la hP hS hl => lv_aload_n hx hb d rfl (lh_at hl rfl) (k H locs la hP hS hl)
theorem r_astore3 {o0 o1 o2 oo : Option Value} {x : Nat} (C : gC Z w cc own ret nL rm) (d : decode cc pc = .ok (.astore_n 3, 1)) (h1 : c1 o2 = true) (k : WW Z post (pc + 1) (o0 :: o1 :: o2 :: some (.ref x) :: ls) st G) : WW Z post pc (o0 :: o1 :: o2 :: oo :: ls) (.ref x :: st) G := by
  obtain ⟨Y, ⟨p, l, e, s, m, args, below, meth, c⟩, rm0, A⟩ := Z
  obtain ⟨⟨hx, hb⟩, -⟩ := C
  exact fun H locs la hP hS hl => lv_astore_n (i := 3) hx hb d rfl hl (by simp only [List.length_cons]; omega) rfl (fun la2 hl2 => k H locs la2 hP hS (lh_s1 (ls := o0 :: o1 :: o2 :: oo :: ls) (i := 3) hl2 (fun j w hj hw => by
      obtain rfl : j = 2 := by omega
      cases hw; exact h1)))
theorem r_aload4 {o0 o1 o2 o3 : Option Value} {x : Nat} (C : gC Z w cc own ret nL rm) (d : decode cc pc = .ok (.aload 4, 2)) (k : WW Z post (pc + 2) (o0 :: o1 :: o2 :: o3 :: some (.ref x) :: ls) (.ref x :: st) G) : WW Z post pc (o0 :: o1 :: o2 :: o3 :: some (.ref x) :: ls) st G := by
  obtain ⟨Y, ⟨p, l, e, s, m, args, below, meth, c⟩, rm0, A⟩ := Z
  obtain ⟨⟨hx, hb⟩, -⟩ := C
  exact fun H locs la hP hS hl => lv_aload hx hb d (lh_at hl rfl) (k H locs la hP hS hl)
theorem r_astore4 {o0 o1 o2 o3 oo : Option Value} {x : Nat} (C : gC Z w cc own ret nL rm) (d : decode cc pc = .ok (.astore 4, 2)) (h1 : c1 o3 = true) (k : WW Z post (pc + 2) (o0 :: o1 :: o2 :: o3 :: some (.ref x) :: ls) st G) : WW Z post pc (o0 :: o1 :: o2 :: o3 :: oo :: ls) (.ref x :: st) G := by
  obtain ⟨Y, ⟨p, l, e, s, m, args, below, meth, c⟩, rm0, A⟩ := Z
  obtain ⟨⟨hx, hb⟩, -⟩ := C
  exact fun H locs la hP hS hl => lv_astore (i := 4) hx hb d hl (by simp only [List.length_cons]; omega) rfl (fun la2 hl2 => k H locs la2 hP hS (lh_s1 (ls := o0 :: o1 :: o2 :: o3 :: oo :: ls) (i := 4) hl2 (fun j w hj hw => by
      obtain rfl : j = 3 := by omega
      cases hw; exact h1)))
theorem r_aload5 {o0 o1 o2 o3 o4 : Option Value} {x : Nat} (C : gC Z w cc own ret nL rm) (d : decode cc pc = .ok (.aload 5, 2)) (k : WW Z post (pc + 2) (o0 :: o1 :: o2 :: o3 :: o4 :: some (.ref x) :: ls) (.ref x :: st) G) : WW Z post pc (o0 :: o1 :: o2 :: o3 :: o4 :: some (.ref x) :: ls) st G := by
  obtain ⟨Y, ⟨p, l, e, s, m, args, below, meth, c⟩, rm0, A⟩ := Z
  obtain ⟨⟨hx, hb⟩, -⟩ := C
  exact fun H locs la hP hS hl => lv_aload hx hb d (lh_at hl rfl) (k H locs la hP hS hl)
theorem r_astore5 {o0 o1 o2 o3 o4 oo : Option Value} {x : Nat} (C : gC Z w cc own ret nL rm) (d : decode cc pc = .ok (.astore 5, 2)) (h1 : c1 o4 = true) (k : WW Z post (pc + 2) (o0 :: o1 :: o2 :: o3 :: o4 :: some (.ref x) :: ls) st G) : WW Z post pc (o0 :: o1 :: o2 :: o3 :: o4 :: oo :: ls) (.ref x :: st) G := by
  obtain ⟨Y, ⟨p, l, e, s, m, args, below, meth, c⟩, rm0, A⟩ := Z
  obtain ⟨⟨hx, hb⟩, -⟩ := C
  exact fun H locs la hP hS hl => lv_astore (i := 5) hx hb d hl (by simp only [List.length_cons]; omega) rfl (fun la2 hl2 => k H locs la2 hP hS (lh_s1 (ls := o0 :: o1 :: o2 :: o3 :: o4 :: oo :: ls) (i := 5) hl2 (fun j w hj hw => by
      obtain rfl : j = 4 := by omega
      cases hw; exact h1)))
theorem r_aload6 {o0 o1 o2 o3 o4 o5 : Option Value} {x : Nat} (C : gC Z w cc own ret nL rm) (d : decode cc pc = .ok (.aload 6, 2)) (k : WW Z post (pc + 2) (o0 :: o1 :: o2 :: o3 :: o4 :: o5 :: some (.ref x) :: ls) (.ref x :: st) G) : WW Z post pc (o0 :: o1 :: o2 :: o3 :: o4 :: o5 :: some (.ref x) :: ls) st G := by
  obtain ⟨Y, ⟨p, l, e, s, m, args, below, meth, c⟩, rm0, A⟩ := Z
  obtain ⟨⟨hx, hb⟩, -⟩ := C
  exact fun H locs la hP hS hl => lv_aload hx hb d (lh_at hl rfl) (k H locs la hP hS hl)
theorem r_astore6 {o0 o1 o2 o3 o4 o5 oo : Option Value} {x : Nat} (C : gC Z w cc own ret nL rm) (d : decode cc pc = .ok (.astore 6, 2)) (h1 : c1 o5 = true) (k : WW Z post (pc + 2) (o0 :: o1 :: o2 :: o3 :: o4 :: o5 :: some (.ref x) :: ls) st G) : WW Z post pc (o0 :: o1 :: o2 :: o3 :: o4 :: o5 :: oo :: ls) (.ref x :: st) G := by
  obtain ⟨Y, ⟨p, l, e, s, m, args, below, meth, c⟩, rm0, A⟩ := Z
  obtain ⟨⟨hx, hb⟩, -⟩ := C
  exact fun H locs la hP hS hl => lv_astore (i := 6) hx hb d hl (by simp only [List.length_cons]; omega) rfl (fun la2 hl2 => k H locs la2 hP hS (lh_s1 (ls := o0 :: o1 :: o2 :: o3 :: o4 :: o5 :: oo :: ls) (i := 6) hl2 (fun j w hj hw => by
      obtain rfl : j = 5 := by omega
      cases hw; exact h1)))
theorem r_aload7 {o0 o1 o2 o3 o4 o5 o6 : Option Value} {x : Nat} (C : gC Z w cc own ret nL rm) (d : decode cc pc = .ok (.aload 7, 2)) (k : WW Z post (pc + 2) (o0 :: o1 :: o2 :: o3 :: o4 :: o5 :: o6 :: some (.ref x) :: ls) (.ref x :: st) G) : WW Z post pc (o0 :: o1 :: o2 :: o3 :: o4 :: o5 :: o6 :: some (.ref x) :: ls) st G := by
  obtain ⟨Y, ⟨p, l, e, s, m, args, below, meth, c⟩, rm0, A⟩ := Z
  obtain ⟨⟨hx, hb⟩, -⟩ := C
  exact fun H locs la hP hS hl => lv_aload hx hb d (lh_at hl rfl) (k H locs la hP hS hl)
theorem r_astore7 {o0 o1 o2 o3 o4 o5 o6 oo : Option Value} {x : Nat} (C : gC Z w cc own ret nL rm) (d : decode cc pc = .ok (.astore 7, 2)) (h1 : c1 o6 = true) (k : WW Z post (pc + 2) (o0 :: o1 :: o2 :: o3 :: o4 :: o5 :: o6 :: some (.ref x) :: ls) st G) : WW Z post pc (o0 :: o1 :: o2 :: o3 :: o4 :: o5 :: o6 :: oo :: ls) (.ref x :: st) G := by
  obtain ⟨Y, ⟨p, l, e, s, m, args, below, meth, c⟩, rm0, A⟩ := Z
  obtain ⟨⟨hx, hb⟩, -⟩ := C
  exact fun H locs la hP hS hl => lv_astore (i := 7) hx hb d hl (by simp only [List.length_cons]; omega) rfl (fun la2 hl2 => k H locs la2 hP hS (lh_s1 (ls := o0 :: o1 :: o2 :: o3 :: o4 :: o5 :: o6 :: oo :: ls) (i := 7) hl2 (fun j w hj hw => by
      obtain rfl : j = 6 := by omega
      cases hw; exact h1)))
theorem r_aload8 {o0 o1 o2 o3 o4 o5 o6 o7 : Option Value} {x : Nat} (C : gC Z w cc own ret nL rm) (d : decode cc pc = .ok (.aload 8, 2)) (k : WW Z post (pc + 2) (o0 :: o1 :: o2 :: o3 :: o4 :: o5 :: o6 :: o7 :: some (.ref x) :: ls) (.ref x :: st) G) : WW Z post pc (o0 :: o1 :: o2 :: o3 :: o4 :: o5 :: o6 :: o7 :: some (.ref x) :: ls) st G := by
  obtain ⟨Y, ⟨p, l, e, s, m, args, below, meth, c⟩, rm0, A⟩ := Z
  obtain ⟨⟨hx, hb⟩, -⟩ := C
  exact fun H locs la hP hS hl => lv_aload hx hb d (lh_at hl rfl) (k H locs la hP hS hl)
theorem r_astore8 {o0 o1 o2 o3 o4 o5 o6 o7 oo : Option Value} {x : Nat} (C : gC Z w cc own ret nL rm) (d : decode cc pc = .ok (.astore 8, 2)) (h1 : c1 o7 = true) (k : WW Z post (pc + 2) (o0 :: o1 :: o2 :: o3 :: o4 :: o5 :: o6 :: o7 :: some (.ref x) :: ls) st G) : WW Z post pc (o0 :: o1 :: o2 :: o3 :: o4 :: o5 :: o6 :: o7 :: oo :: ls) (.ref x :: st) G := by
  obtain ⟨Y, ⟨p, l, e, s, m, args, below, meth, c⟩, rm0, A⟩ := Z
  obtain ⟨⟨hx, hb⟩, -⟩ := C
  exact fun H locs la hP hS hl => lv_astore (i := 8) hx hb d hl (by simp only [List.length_cons]; omega) rfl (fun la2 hl2 => k H locs la2 hP hS (lh_s1 (ls := o0 :: o1 :: o2 :: o3 :: o4 :: o5 :: o6 :: o7 :: oo :: ls) (i := 8) hl2 (fun j w hj hw => by
      obtain rfl : j = 7 := by omega
      cases hw; exact h1)))
theorem r_aload9 {o0 o1 o2 o3 o4 o5 o6 o7 o8 : Option Value} {x : Nat} (C : gC Z w cc own ret nL rm) (d : decode cc pc = .ok (.aload 9, 2)) (k : WW Z post (pc + 2) (o0 :: o1 :: o2 :: o3 :: o4 :: o5 :: o6 :: o7 :: o8 :: some (.ref x) :: ls) (.ref x :: st) G) : WW Z post pc (o0 :: o1 :: o2 :: o3 :: o4 :: o5 :: o6 :: o7 :: o8 :: some (.ref x) :: ls) st G := by
  obtain ⟨Y, ⟨p, l, e, s, m, args, below, meth, c⟩, rm0, A⟩ := Z
  obtain ⟨⟨hx, hb⟩, -⟩ := C
  exact fun H locs la hP hS hl => lv_aload hx hb d (lh_at hl rfl) (k H locs la hP hS hl)
theorem r_astore9 {o0 o1 o2 o3 o4 o5 o6 o7 o8 oo : Option Value} {x : Nat} (C : gC Z w cc own ret nL rm) (d : decode cc pc = .ok (.astore 9, 2)) (h1 : c1 o8 = true) (k : WW Z post (pc + 2) (o0 :: o1 :: o2 :: o3 :: o4 :: o5 :: o6 :: o7 :: o8 :: some (.ref x) :: ls) st G) : WW Z post pc (o0 :: o1 :: o2 :: o3 :: o4 :: o5 :: o6 :: o7 :: o8 :: oo :: ls) (.ref x :: st) G := by
  obtain ⟨Y, ⟨p, l, e, s, m, args, below, meth, c⟩, rm0, A⟩ := Z
  obtain ⟨⟨hx, hb⟩, -⟩ := C
  exact fun H locs la hP hS hl => lv_astore (i := 9) hx hb d hl (by simp only [List.length_cons]; omega) rfl (fun la2 hl2 => k H locs la2 hP hS (lh_s1 (ls := o0 :: o1 :: o2 :: o3 :: o4 :: o5 :: o6 :: o7 :: o8 :: oo :: ls) (i := 9) hl2 (fun j w hj hw => by
      obtain rfl : j = 8 := by omega
      cases hw; exact h1)))
theorem r_aload10 {o0 o1 o2 o3 o4 o5 o6 o7 o8 o9 : Option Value} {x : Nat} (C : gC Z w cc own ret nL rm) (d : decode cc pc = .ok (.aload 10, 2)) (k : WW Z post (pc + 2) (o0 :: o1 :: o2 :: o3 :: o4 :: o5 :: o6 :: o7 :: o8 :: o9 :: some (.ref x) :: ls) (.ref x :: st) G) : WW Z post pc (o0 :: o1 :: o2 :: o3 :: o4 :: o5 :: o6 :: o7 :: o8 :: o9 :: some (.ref x) :: ls) st G := by
  obtain ⟨Y, ⟨p, l, e, s, m, args, below, meth, c⟩, rm0, A⟩ := Z
  obtain ⟨⟨hx, hb⟩, -⟩ := C
  exact fun H locs la hP hS hl => lv_aload hx hb d (lh_at hl rfl) (k H locs la hP hS hl)
theorem r_astore10 {o0 o1 o2 o3 o4 o5 o6 o7 o8 o9 oo : Option Value} {x : Nat} (C : gC Z w cc own ret nL rm) (d : decode cc pc = .ok (.astore 10, 2)) (h1 : c1 o9 = true) (k : WW Z post (pc + 2) (o0 :: o1 :: o2 :: o3 :: o4 :: o5 :: o6 :: o7 :: o8 :: o9 :: some (.ref x) :: ls) st G) : WW Z post pc (o0 :: o1 :: o2 :: o3 :: o4 :: o5 :: o6 :: o7 :: o8 :: o9 :: oo :: ls) (.ref x :: st) G := by
  obtain ⟨Y, ⟨p, l, e, s, m, args, below, meth, c⟩, rm0, A⟩ := Z
  obtain ⟨⟨hx, hb⟩, -⟩ := C
  exact fun H locs la hP hS hl => lv_astore (i := 10) hx hb d hl (by simp only [List.length_cons]; omega) rfl (fun la2 hl2 => k H locs la2 hP hS (lh_s1 (ls := o0 :: o1 :: o2 :: o3 :: o4 :: o5 :: o6 :: o7 :: o8 :: o9 :: oo :: ls) (i := 10) hl2 (fun j w hj hw => by
      obtain rfl : j = 9 := by omega
      cases hw; exact h1)))
theorem r_aload11 {o0 o1 o2 o3 o4 o5 o6 o7 o8 o9 o10 : Option Value} {x : Nat} (C : gC Z w cc own ret nL rm) (d : decode cc pc = .ok (.aload 11, 2)) (k : WW Z post (pc + 2) (o0 :: o1 :: o2 :: o3 :: o4 :: o5 :: o6 :: o7 :: o8 :: o9 :: o10 :: some (.ref x) :: ls) (.ref x :: st) G) : WW Z post pc (o0 :: o1 :: o2 :: o3 :: o4 :: o5 :: o6 :: o7 :: o8 :: o9 :: o10 :: some (.ref x) :: ls) st G := by
  obtain ⟨Y, ⟨p, l, e, s, m, args, below, meth, c⟩, rm0, A⟩ := Z
  obtain ⟨⟨hx, hb⟩, -⟩ := C
  exact fun H locs la hP hS hl => lv_aload hx hb d (lh_at hl rfl) (k H locs la hP hS hl)
theorem r_astore11 {o0 o1 o2 o3 o4 o5 o6 o7 o8 o9 o10 oo : Option Value} {x : Nat} (C : gC Z w cc own ret nL rm) (d : decode cc pc = .ok (.astore 11, 2)) (h1 : c1 o10 = true) (k : WW Z post (pc + 2) (o0 :: o1 :: o2 :: o3 :: o4 :: o5 :: o6 :: o7 :: o8 :: o9 :: o10 :: some (.ref x) :: ls) st G) : WW Z post pc (o0 :: o1 :: o2 :: o3 :: o4 :: o5 :: o6 :: o7 :: o8 :: o9 :: o10 :: oo :: ls) (.ref x :: st) G := by
  obtain ⟨Y, ⟨p, l, e, s, m, args, below, meth, c⟩, rm0, A⟩ := Z
  obtain ⟨⟨hx, hb⟩, -⟩ := C
  exact fun H locs la hP hS hl => lv_astore (i := 11) hx hb d hl (by simp only [List.length_cons]; omega) rfl (fun la2 hl2 => k H locs la2 hP hS (lh_s1 (ls := o0 :: o1 :: o2 :: o3 :: o4 :: o5 :: o6 :: o7 :: o8 :: o9 :: o10 :: oo :: ls) (i := 11) hl2 (fun j w hj hw => by
      obtain rfl : j = 10 := by omega
      cases hw; exact h1)))
theorem r_aload12 {o0 o1 o2 o3 o4 o5 o6 o7 o8 o9 o10 o11 : Option Value} {x : Nat} (C : gC Z w cc own ret nL rm) (d : decode cc pc = .ok (.aload 12, 2)) (k : WW Z post (pc + 2) (o0 :: o1 :: o2 :: o3 :: o4 :: o5 :: o6 :: o7 :: o8 :: o9 :: o10 :: o11 :: some (.ref x) :: ls) (.ref x :: st) G) : WW Z post pc (o0 :: o1 :: o2 :: o3 :: o4 :: o5 :: o6 :: o7 :: o8 :: o9 :: o10 :: o11 :: some (.ref x) :: ls) st G := by
  obtain ⟨Y, ⟨p, l, e, s, m, args, below, meth, c⟩, rm0, A⟩ := Z
  obtain ⟨⟨hx, hb⟩, -⟩ := C
  exact fun H locs la hP hS hl => lv_aload hx hb d (lh_at hl rfl) (k H locs la hP hS hl)
theorem r_astore12 {o0 o1 o2 o3 o4 o5 o6 o7 o8 o9 o10 o11 oo : Option Value} {x : Nat} (C : gC Z w cc own ret nL rm) (d : decode cc pc = .ok (.astore 12, 2)) (h1 : c1 o11 = true) (k : WW Z post (pc + 2) (o0 :: o1 :: o2 :: o3 :: o4 :: o5 :: o6 :: o7 :: o8 :: o9 :: o10 :: o11 :: some (.ref x) :: ls) st G) : WW Z post pc (o0 :: o1 :: o2 :: o3 :: o4 :: o5 :: o6 :: o7 :: o8 :: o9 :: o10 :: o11 :: oo :: ls) (.ref x :: st) G := by
  obtain ⟨Y, ⟨p, l, e, s, m, args, below, meth, c⟩, rm0, A⟩ := Z
  obtain ⟨⟨hx, hb⟩, -⟩ := C
  exact fun H locs la hP hS hl => lv_astore (i := 12) hx hb d hl (by simp only [List.length_cons]; omega) rfl (fun la2 hl2 => k H locs la2 hP hS (lh_s1 (ls := o0 :: o1 :: o2 :: o3 :: o4 :: o5 :: o6 :: o7 :: o8 :: o9 :: o10 :: o11 :: oo :: ls) (i := 12) hl2 (fun j w hj hw => by
      obtain rfl : j = 11 := by omega
      cases hw; exact h1)))
theorem r_aload13 {o0 o1 o2 o3 o4 o5 o6 o7 o8 o9 o10 o11 o12 : Option Value} {x : Nat} (C : gC Z w cc own ret nL rm) (d : decode cc pc = .ok (.aload 13, 2)) (k : WW Z post (pc + 2) (o0 :: o1 :: o2 :: o3 :: o4 :: o5 :: o6 :: o7 :: o8 :: o9 :: o10 :: o11 :: o12 :: some (.ref x) :: ls) (.ref x :: st) G) : WW Z post pc (o0 :: o1 :: o2 :: o3 :: o4 :: o5 :: o6 :: o7 :: o8 :: o9 :: o10 :: o11 :: o12 :: some (.ref x) :: ls) st G := by
  obtain ⟨Y, ⟨p, l, e, s, m, args, below, meth, c⟩, rm0, A⟩ := Z
  obtain ⟨⟨hx, hb⟩, -⟩ := C
  exact fun H locs la hP hS hl => lv_aload hx hb d (lh_at hl rfl) (k H locs la hP hS hl)
theorem r_astore13 {o0 o1 o2 o3 o4 o5 o6 o7 o8 o9 o10 o11 o12 oo : Option Value} {x : Nat} (C : gC Z w cc own ret nL rm) (d : decode cc pc = .ok (.astore 13, 2)) (h1 : c1 o12 = true) (k : WW Z post (pc + 2) (o0 :: o1 :: o2 :: o3 :: o4 :: o5 :: o6 :: o7 :: o8 :: o9 :: o10 :: o11 :: o12 :: some (.ref x) :: ls) st G) : WW Z post pc (o0 :: o1 :: o2 :: o3 :: o4 :: o5 :: o6 :: o7 :: o8 :: o9 :: o10 :: o11 :: o12 :: oo :: ls) (.ref x :: st) G := by
  obtain ⟨Y, ⟨p, l, e, s, m, args, below, meth, c⟩, rm0, A⟩ := Z
  obtain ⟨⟨hx, hb⟩, -⟩ := C
  exact fun H locs la hP hS hl => lv_astore (i := 13) hx hb d hl (by simp only [List.length_cons]; omega) rfl (fun la2 hl2 => k H locs la2 hP hS (lh_s1 (ls := o0 :: o1 :: o2 :: o3 :: o4 :: o5 :: o6 :: o7 :: o8 :: o9 :: o10 :: o11 :: o12 :: oo :: ls) (i := 13) hl2 (fun j w hj hw => by
      obtain rfl : j = 12 := by omega
      cases hw; exact h1)))
end R
end
section
/-! rows over the heap: fields, arrays, static rows, calls, returns -/
theorem gv_i {ad : Nat → Nat} {G : gS} {r k x : Nat} : gv ad G r k (0, x) = .int (G.1 r k) := rfl
theorem gv_f {ad : Nat → Nat} {G : gS} {r k x : Nat} : gv ad G r k (1, x) = .ref (ad x) := rfl
theorem gv_d {ad : Nat → Nat} {G : gS} {r k x : Nat} : gv ad G r k (2, x) = .ref (ad (G.2.2 r k)) := rfl
/-- class ci of the tables: its name and fields, and that their words are there -/
def gF (ci : Nat) (Cn : String) (T : u_T) (N : Nat) : Prop := vwCl[ci]? = some (Cn, T, N) ∧ (∀ x ∈ u_ws Cn T N, x ∈ lw_g) ∧ (∀ a, a < N → ∀ b, b < N → a ≠ b → (T a).2.1 ≠ (T b).2.1) ∧ ∃ ty0 : Nat → FieldType, ∀ k, k < N → parseFieldDescriptor (T k).2.2.1 = some (ty0 k)
/-- role r is an object of class ci -/
def gJ (w : gU) (r ci N : Nat) (fs : Nat → Nat × Nat) : Prop := r ∈ w.1 ∧ w.2 r = (0, ci, N, fs)
/-- role r is an array: kind 1 ints (bytes, booleans), 2 longs, 3 references; t its place in gT; n its length -/
def gA (w : gU) (r kd t n : Nat) (fs : Nat → Nat × Nat) : Prop := r ∈ w.1 ∧ w.2 r = (kd, t, n, fs) ∧ n < 2 ^ 31
theorem gJ.e {Y : gY} {w : gU} {G : gS} {r ci N : Nat} {fs : Nat → Nat × Nat} (hw : Y.2.2.2 = w) (h : gJ w r ci N fs) : ∃ q : Nat, Y.2.2.2.1[q]? = some r ∧ (gw Y G)[q]? = some (Y.2.1 r, .inr (ci, (List.range N).map (fun k => gv Y.2.1 G r k (fs k)))) := by
  subst hw
  obtain ⟨q, hq⟩ := gw_ix h.1
  refine ⟨q, hq, ?_⟩
  rw [gw_at hq, h.2]
  rfl
theorem gA.e1 {Y : gY} {w : gU} {G : gS} {r t n : Nat} {fs : Nat → Nat × Nat} (hw : Y.2.2.2 = w) (h : gA w r 1 t n fs) : ∃ q : Nat, Y.2.2.2.1[q]? = some r ∧ (gw Y G)[q]? = some (Y.2.1 r, .inl (Y.2.2.1 t, n, .inl (G.1 r))) := by
  subst hw
  obtain ⟨q, hq⟩ := gw_ix h.1
  refine ⟨q, hq, ?_⟩
  rw [gw_at hq, h.2.1]
  rfl
theorem gA.e2 {Y : gY} {w : gU} {G : gS} {r t n : Nat} {fs : Nat → Nat × Nat} (hw : Y.2.2.2 = w) (h : gA w r 2 t n fs) : ∃ q : Nat, Y.2.2.2.1[q]? = some r ∧ (gw Y G)[q]? = some (Y.2.1 r, .inl (Y.2.2.1 t, n, .inr (.inl (G.2.1 r)))) := by
  subst hw
  obtain ⟨q, hq⟩ := gw_ix h.1
  refine ⟨q, hq, ?_⟩
  rw [gw_at hq, h.2.1]
  rfl
theorem gA.e3 {Y : gY} {w : gU} {G : gS} {r t n : Nat} {fs : Nat → Nat × Nat} (hw : Y.2.2.2 = w) (h : gA w r 3 t n fs) : ∃ q : Nat, Y.2.2.2.1[q]? = some r ∧ (gw Y G)[q]? = some (Y.2.1 r, .inl (Y.2.2.1 t, n, .inr (.inr (.inr (.inr (gq Y.2.1 G r fs)))))) := by
  subst hw
  obtain ⟨q, hq⟩ := gw_ix h.1
  refine ⟨q, hq, ?_⟩
  rw [gw_at hq, h.2.1]
  rfl
theorem g_fs {ad : Nat → Nat} {G G' : gS} {r k N : Nat} {v : Value} {fs : Nat → Nat × Nat} (hv : gv ad G' r k (fs k) = v) (ho : ∀ j, j ≠ k → gv ad G' r j (fs j) = gv ad G r j (fs j)) : (List.range N).map (fun k => gv ad G' r k (fs k)) = ((List.range N).map (fun k => gv ad G r k (fs k))).set k v := by
  apply List.ext_getElem?
  intro i
  rw [List.getElem?_set, List.getElem?_map, List.getElem?_map]
  by_cases hk : k = i
  · subst hk
    rw [if_pos rfl]
    by_cases hl : k < N
    · rw [if_pos (by simpa using hl), List.getElem?_range hl]; simp [hv]
    · rw [if_neg (by simpa using hl), List.getElem?_eq_none (by simpa using hl)]; rfl
  · rw [if_neg hk]
    by_cases hl : i < N
    · rw [List.getElem?_range hl]; simp [ho i (fun e => hk e.symm)]
    · rw [List.getElem?_eq_none (by simpa using hl)]; rfl
theorem upd_o {f : Nat → Int32} {k j : Nat} {v : Int32} (h : j ≠ k) : upd f k v j = f j := if_neg h
theorem upd_s {f : Nat → Int32} {k : Nat} {v : Int32} : upd f k v k = v := if_pos rfl
section R
variable {Z : gO} {w : gU} {cc : ByteArray} {own : String} {ret : Option FieldType} {nL : Nat} {rm : Nat × Nat} {post : Option Value → gS → Prop} {pc : Nat} {ls : List (Option Value)} {st : List Value} {G : gS}
theorem r_get {r ci idx N k : Nat} {Cn : String} {T : u_T} {fs : Nat → Nat × Nat} {v : Value} (C : gC Z w cc own ret nL rm) (d : decode cc pc = .ok (.getfield idx, 3)) (hF : gF ci Cn T N) (hJ : gJ w r ci N fs) (hk : k < N) (hl : Cond.fieldLink own idx (T k).1 (T k).2.1 (T k).2.2.1 ∈ lw_g) (hv : gv (ad Z) G r k (fs k) = v) (kk : WW Z post (pc + 3) ls (v :: st) G) : WW Z post pc ls (.ref (ad Z r) :: st) G := by
  obtain ⟨Y, ⟨p, l, e, s, m, args, below, meth, c⟩, rm0, A⟩ := Z
  obtain ⟨⟨hx, hb⟩, hrr, ⟨hml, hown⟩, hts, hK, hD, hA, hw, hrm, hZ, hN⟩ := C
  intro H locs la hP hS hlh
  obtain ⟨q, hq, he⟩ := gJ.e (G := G) hw hJ
  refine va_get hx hb hts hF.2.1 hown hK hP q he hF.1 k hk (hts _ hl) (fun _ h => h) ?_ d (kk H locs la hP hS hlh)
  rw [List.getElem?_map, List.getElem?_range hk]
  exact congrArg some hv
theorem r_put {r ci idx N k : Nat} {Cn : String} {T : u_T} {fs : Nat → Nat × Nat} {x : Int32} {ty : FieldType} (C : gC Z w cc own ret nL rm) (d : decode cc pc = .ok (.putfield idx, 3)) (hF : gF ci Cn T N) (hJ : gJ w r ci N fs) (hk : k < N) (hl : Cond.fieldLink own idx (T k).1 (T k).2.1 (T k).2.2.1 ∈ lw_g) (hfin : (T k).2.2.2 = false) (hd : parseFieldDescriptor (T k).2.2.1 = some ty) (hf : (fs k).1 = 0) (hn : narrow ty (.int x) = .int x) (hfit : fits ty (.int x) = true) (kk : WW Z post (pc + 3) ls st (sI G r k x)) : WW Z post pc ls (.int x :: .ref (ad Z r) :: st) G := by
  obtain ⟨Y, ⟨p, l, e, s, m, args, below, meth, c⟩, rm0, A⟩ := Z
  obtain ⟨⟨hx, hb⟩, hrr, ⟨hml, hown⟩, hts, hK, hD, hA, hw, hrm, hZ, hN⟩ := C
  intro H locs la hP hS hlh
  obtain ⟨q, hq, he⟩ := gJ.e (G := G) hw hJ
  obtain ⟨hc, hin, hnm, ty0, hty⟩ := hF
  refine va_put hx hb hts hin ty0 hty hnm hown hK hP (hD G) hS q he hc k hk (hts _ hl) (fun _ h => h) hfin hd hn hfit (by simpa using hk) d (fun H1 locs1 hP1 _ hS1 => ?_)
  refine kk H1 locs1 la ?_ hS1 hlh
  have e1 : (gw Y G).set q (Y.2.1 r, .inr (ci, ((List.range N).map (fun k => gv Y.2.1 G r k (fs k))).set k (.int x))) = gw Y (sI G r k x) := by
    refine gw_set (hD G) hq ?_ (fun r' hr' => gc_sI hr')
    have h2 : Y.2.2.2.2 r = (0, ci, N, fs) := by rw [hw]; exact hJ.2
    rw [h2]
    show Sum.inr (ci, (List.range N).map (fun k' => gv Y.2.1 (sI G r k x) r k' (fs k'))) = _
    rw [g_fs (G := G) (k := k) (v := .int x)]
    · rw [gv, if_pos hf, sI_s, upd_s]
    · intro j hj
      simp only [gv, sI_s, upd_o hj]; rfl
  rw [e1] at hP1
  exact hP1
theorem r_putR {r ci idx N k x : Nat} {Cn : String} {T : u_T} {fs : Nat → Nat × Nat} {ty : FieldType} (C : gC Z w cc own ret nL rm) (d : decode cc pc = .ok (.putfield idx, 3)) (hF : gF ci Cn T N) (hJ : gJ w r ci N fs) (hk : k < N) (hl : Cond.fieldLink own idx (T k).1 (T k).2.1 (T k).2.2.1 ∈ lw_g) (hfin : (T k).2.2.2 = false) (hd : parseFieldDescriptor (T k).2.2.1 = some ty) (hf : (fs k).1 = 2) (hn : ∀ a, narrow ty (.ref a) = .ref a) (hfit : ∀ a, fits ty (.ref a) = true) (kk : WW Z post (pc + 3) ls st (sR G r k x)) : WW Z post pc ls (.ref (ad Z x) :: .ref (ad Z r) :: st) G := by
  obtain ⟨Y, ⟨p, l, e, s, m, args, below, meth, c⟩, rm0, A⟩ := Z
  obtain ⟨⟨hx, hb⟩, hrr, ⟨hml, hown⟩, hts, hK, hD, hA, hw, hrm, hZ, hN⟩ := C
  intro H locs la hP hS hlh
  obtain ⟨q, hq, he⟩ := gJ.e (G := G) hw hJ
  obtain ⟨hc, hin, hnm, ty0, hty⟩ := hF
  refine va_put hx hb hts hin ty0 hty hnm hown hK hP (hD G) hS q he hc k hk (hts _ hl) (fun _ h => h) hfin hd (hn _) (hfit _) (by simpa using hk) d (fun H1 locs1 hP1 _ hS1 => ?_)
  refine kk H1 locs1 la ?_ hS1 hlh
  have e1 : (gw Y G).set q (Y.2.1 r, .inr (ci, ((List.range N).map (fun k => gv Y.2.1 G r k (fs k))).set k (.ref (Y.2.1 x)))) = gw Y (sR G r k x) := by
    refine gw_set (hD G) hq ?_ (fun r' hr' => gc_sR hr')
    have h2 : Y.2.2.2.2 r = (0, ci, N, fs) := by rw [hw]; exact hJ.2
    rw [h2]
    show Sum.inr (ci, (List.range N).map (fun k' => gv Y.2.1 (sR G r k x) r k' (fs k'))) = _
    rw [g_fs (G := G) (k := k) (v := .ref (Y.2.1 x))]
    · rw [gv, if_neg (by rw [hf]; decide), if_neg (by rw [hf]; decide), sR_s, va_up, if_pos rfl]
    · intro j hj
      simp only [gv, sR_s, va_up, if_neg hj]; rfl
  rw [e1] at hP1
  exact hP1
theorem r_iald {r n : Nat} {fs : Nat → Nat × Nat} {x : Int32} (j : Nat) (C : gC Z w cc own ret nL rm) (d : decode cc pc = .ok (.iaload, 1)) (hJ : gA w r 1 0 n fs) (hx : x = nI j) (hj : j < n) (kk : WW Z post (pc + 1) ls (.int (G.1 r j) :: st) G) : WW Z post pc ls (.int x :: .ref (ad Z r) :: st) G := by
  obtain ⟨Y, ⟨p, l, e, s, m, args, below, meth, c⟩, rm0, A⟩ := Z
  obtain ⟨⟨hx', hb⟩, hrr, ⟨hml, hown⟩, hts, hK, hD, hA, hw, hrm, hZ, hN⟩ := C
  intro H locs la hP hS hlh
  obtain ⟨q, hq, he⟩ := gA.e1 (G := G) hw hJ
  have hn := hJ.2.2
  subst hx
  refine va_iald hx' hb hK hP q 0 he rfl (vp_in_nI hj hn) d ?_
  rw [nI_clamp (by omega)]
  exact kk H locs la hP hS hlh
theorem r_zald {r n : Nat} {fs : Nat → Nat × Nat} {x : Int32} (j : Nat) (C : gC Z w cc own ret nL rm) (d : decode cc pc = .ok (.baload, 1)) (hJ : gA w r 1 1 n fs) (hx : x = nI j) (hj : j < n) (kk : WW Z post (pc + 1) ls (.int (G.1 r j) :: st) G) : WW Z post pc ls (.int x :: .ref (ad Z r) :: st) G := by
  obtain ⟨Y, ⟨p, l, e, s, m, args, below, meth, c⟩, rm0, A⟩ := Z
  obtain ⟨⟨hx', hb⟩, hrr, ⟨hml, hown⟩, hts, hK, hD, hA, hw, hrm, hZ, hN⟩ := C
  intro H locs la hP hS hlh
  obtain ⟨q, hq, he⟩ := gA.e1 (G := G) hw hJ
  have hn := hJ.2.2
  subst hx
  refine va_zald hx' hb hK hP q 1 he rfl (vp_in_nI hj hn) d ?_
  rw [nI_clamp (by omega)]
  exact kk H locs la hP hS hlh
theorem r_bald {r n : Nat} {fs : Nat → Nat × Nat} {x : Int32} (j : Nat) (C : gC Z w cc own ret nL rm) (d : decode cc pc = .ok (.baload, 1)) (hJ : gA w r 1 2 n fs) (hx : x = nI j) (hj : j < n) (kk : WW Z post (pc + 1) ls (.int (G.1 r j) :: st) G) : WW Z post pc ls (.int x :: .ref (ad Z r) :: st) G := by
  obtain ⟨Y, ⟨p, l, e, s, m, args, below, meth, c⟩, rm0, A⟩ := Z
  obtain ⟨⟨hx', hb⟩, hrr, ⟨hml, hown⟩, hts, hK, hD, hA, hw, hrm, hZ, hN⟩ := C
  intro H locs la hP hS hlh
  obtain ⟨q, hq, he⟩ := gA.e1 (G := G) hw hJ
  have hn := hJ.2.2
  subst hx
  refine va_bald hx' hb hK hP q 2 he rfl (vp_in_nI hj hn) d ?_
  rw [nI_clamp (by omega)]
  exact kk H locs la hP hS hlh
theorem r_lald {r n : Nat} {fs : Nat → Nat × Nat} {x : Int32} (j : Nat) (C : gC Z w cc own ret nL rm) (d : decode cc pc = .ok (.laload, 1)) (hJ : gA w r 2 3 n fs) (hx : x = nI j) (hj : j < n) (kk : WW Z post (pc + 1) ls (.long (G.2.1 r j) :: st) G) : WW Z post pc ls (.int x :: .ref (ad Z r) :: st) G := by
  obtain ⟨Y, ⟨p, l, e, s, m, args, below, meth, c⟩, rm0, A⟩ := Z
  obtain ⟨⟨hx', hb⟩, hrr, ⟨hml, hown⟩, hts, hK, hD, hA, hw, hrm, hZ, hN⟩ := C
  intro H locs la hP hS hlh
  obtain ⟨q, hq, he⟩ := gA.e2 (G := G) hw hJ
  have hn := hJ.2.2
  subst hx
  refine va_lald hx' hb hK hP q 3 he rfl (vp_in_nI hj hn) d ?_
  rw [nI_clamp (by omega)]
  exact kk H locs la hP hS hlh
/-- an element of a row of references: kind f of the element (1 fixed, 2 as the heap has it) -/
theorem r_aald {r n t a : Nat} {Cn : String} {fs : Nat → Nat × Nat} {x : Int32} (j : Nat) (C : gC Z w cc own ret nL rm) (d : decode cc pc = .ok (.aaload, 1)) (hJ : gA w r 3 t n fs) (ht : ∀ cA, (gT cA)[t]? = some (cA t, .object Cn)) (hx : x = nI j) (hj : j < n) (ha : (if (fs j).1 = 1 then (fs j).2 else G.2.2 r j) = a) (kk : WW Z post (pc + 1) ls (.ref (ad Z a) :: st) G) : WW Z post pc ls (.int x :: .ref (ad Z r) :: st) G := by
  obtain ⟨Y, ⟨p, l, e, s, m, args, below, meth, c⟩, rm0, A⟩ := Z
  obtain ⟨⟨hx', hb⟩, hrr, ⟨hml, hown⟩, hts, hK, hD, hA, hw, hrm, hZ, hN⟩ := C
  intro H locs la hP hS hlh
  obtain ⟨q, hq, he⟩ := gA.e3 (G := G) hw hJ
  have hn := hJ.2.2
  subst hx
  refine va_aldq hx' hb hK hP q t he (ht _) (vp_in_nI hj hn) d ?_
  rw [nI_clamp (by omega), gq, ha]
  exact kk H locs la hP hS hlh
theorem r_iast {r n : Nat} {fs : Nat → Nat × Nat} {x v : Int32} (j : Nat) (C : gC Z w cc own ret nL rm) (d : decode cc pc = .ok (.iastore, 1)) (hJ : gA w r 1 0 n fs) (hx : x = nI j) (hj : j < n) (kk : WW Z post (pc + 1) ls st (sI G r j v)) : WW Z post pc ls (.int v :: .int x :: .ref (ad Z r) :: st) G := by
  obtain ⟨Y, ⟨p, l, e, s, m, args, below, meth, c⟩, rm0, A⟩ := Z
  obtain ⟨⟨hx', hb⟩, hrr, ⟨hml, hown⟩, hts, hK, hD, hA, hw, hrm, hZ, hN⟩ := C
  intro H locs la hP hS hlh
  obtain ⟨q, hq, he⟩ := gA.e1 (G := G) hw hJ
  have hn := hJ.2.2
  subst hx
  refine va_iast hx' hb hK hP (hD G) hS q 0 he rfl (vp_in_nI hj hn) d (fun H1 locs1 hP1 _ hS1 => kk H1 locs1 la ?_ hS1 hlh)
  rw [nI_clamp (by omega)] at hP1
  rw [← gw_set (G' := sI G r j v) (hD G) hq (e := .inl (Y.2.2.1 0, n, .inl (upd (G.1 r) j v))) ?_ (fun r' hr' => gc_sI hr')]
  · exact hP1
  · have h2 : Y.2.2.2.2 r = (1, 0, n, fs) := by rw [hw]; exact hJ.2.1
    rw [h2]
    show Sum.inl (Y.2.2.1 0, n, Sum.inl ((sI G r j v).1 r)) = _
    rw [sI_s]
theorem r_zast {r n : Nat} {fs : Nat → Nat × Nat} {x v v' : Int32} (j : Nat) (C : gC Z w cc own ret nL rm) (d : decode cc pc = .ok (.bastore, 1)) (hJ : gA w r 1 1 n fs) (hx : x = nI j) (hj : j < n) (hv : vp_nar .boolean v = v') (kk : WW Z post (pc + 1) ls st (sI G r j v')) : WW Z post pc ls (.int v :: .int x :: .ref (ad Z r) :: st) G := by
  obtain ⟨Y, ⟨p, l, e, s, m, args, below, meth, c⟩, rm0, A⟩ := Z
  obtain ⟨⟨hx', hb⟩, hrr, ⟨hml, hown⟩, hts, hK, hD, hA, hw, hrm, hZ, hN⟩ := C
  intro H locs la hP hS hlh
  obtain ⟨q, hq, he⟩ := gA.e1 (G := G) hw hJ
  have hn := hJ.2.2
  subst hx
  refine va_zast hx' hb hK hP (hD G) hS q 1 he rfl (vp_in_nI hj hn) d (fun H1 locs1 hP1 _ hS1 => kk H1 locs1 la ?_ hS1 hlh)
  rw [nI_clamp (by omega), hv] at hP1
  rw [← gw_set (G' := sI G r j v') (hD G) hq (e := .inl (Y.2.2.1 1, n, .inl (upd (G.1 r) j v'))) ?_ (fun r' hr' => gc_sI hr')]
  · exact hP1
  · have h2 : Y.2.2.2.2 r = (1, 1, n, fs) := by rw [hw]; exact hJ.2.1
    rw [h2]
    show Sum.inl (Y.2.2.1 1, n, Sum.inl ((sI G r j v').1 r)) = _
    rw [sI_s]
theorem r_bast {r n : Nat} {fs : Nat → Nat × Nat} {x v v' : Int32} (j : Nat) (C : gC Z w cc own ret nL rm) (d : decode cc pc = .ok (.bastore, 1)) (hJ : gA w r 1 2 n fs) (hx : x = nI j) (hj : j < n) (hv : vp_nar .byte v = v') (kk : WW Z post (pc + 1) ls st (sI G r j v')) : WW Z post pc ls (.int v :: .int x :: .ref (ad Z r) :: st) G := by
  obtain ⟨Y, ⟨p, l, e, s, m, args, below, meth, c⟩, rm0, A⟩ := Z
  obtain ⟨⟨hx', hb⟩, hrr, ⟨hml, hown⟩, hts, hK, hD, hA, hw, hrm, hZ, hN⟩ := C
  intro H locs la hP hS hlh
  obtain ⟨q, hq, he⟩ := gA.e1 (G := G) hw hJ
  have hn := hJ.2.2
  subst hx
  refine va_bast hx' hb hK hP (hD G) hS q 2 he rfl (vp_in_nI hj hn) d (fun H1 locs1 hP1 _ hS1 => kk H1 locs1 la ?_ hS1 hlh)
  rw [nI_clamp (by omega), hv] at hP1
  rw [← gw_set (G' := sI G r j v') (hD G) hq (e := .inl (Y.2.2.1 2, n, .inl (upd (G.1 r) j v'))) ?_ (fun r' hr' => gc_sI hr')]
  · exact hP1
  · have h2 : Y.2.2.2.2 r = (1, 2, n, fs) := by rw [hw]; exact hJ.2.1
    rw [h2]
    show Sum.inl (Y.2.2.1 2, n, Sum.inl ((sI G r j v').1 r)) = _
    rw [sI_s]
theorem r_last {r n : Nat} {fs : Nat → Nat × Nat} {x : Int32} {v : Int64} (j : Nat) (C : gC Z w cc own ret nL rm) (d : decode cc pc = .ok (.lastore, 1)) (hJ : gA w r 2 3 n fs) (hx : x = nI j) (hj : j < n) (kk : WW Z post (pc + 1) ls st (sL G r j v)) : WW Z post pc ls (.long v :: .int x :: .ref (ad Z r) :: st) G := by
  obtain ⟨Y, ⟨p, l, e, s, m, args, below, meth, c⟩, rm0, A⟩ := Z
  obtain ⟨⟨hx', hb⟩, hrr, ⟨hml, hown⟩, hts, hK, hD, hA, hw, hrm, hZ, hN⟩ := C
  intro H locs la hP hS hlh
  obtain ⟨q, hq, he⟩ := gA.e2 (G := G) hw hJ
  have hn := hJ.2.2
  subst hx
  refine va_last hx' hb hK hP (hD G) hS q 3 he rfl (vp_in_nI hj hn) d (fun H1 locs1 hP1 _ hS1 => kk H1 locs1 la ?_ hS1 hlh)
  rw [nI_clamp (by omega)] at hP1
  rw [← gw_set (G' := sL G r j v) (hD G) hq (e := .inl (Y.2.2.1 3, n, .inr (.inl (vp_updL (G.2.1 r) j v)))) ?_ (fun r' hr' => gc_sL hr')]
  · exact hP1
  · have h2 : Y.2.2.2.2 r = (2, 3, n, fs) := by rw [hw]; exact hJ.2.1
    rw [h2]
    show Sum.inl (Y.2.2.1 3, n, Sum.inr (Sum.inl ((sL G r j v).2.1 r))) = _
    rw [sL_s]
/-- a store into a row of references whose elements are as the heap has them -/
theorem r_aast {r n t a ci N : Nat} {Cn : String} {T : u_T} {fs fa : Nat → Nat × Nat} {x : Int32} (j : Nat) (C : gC Z w cc own ret nL rm) (d : decode cc pc = .ok (.aastore, 1)) (hJ : gA w r 3 t n fs) (hdy : ∀ k, (fs k).1 = 2) (ht : ∀ cA, (gT cA)[t]? = some (cA t, .object Cn)) (hF : gF ci Cn T N) (hO : gJ w a ci N fa) (hx : x = nI j) (hj : j < n) (kk : WW Z post (pc + 1) ls st (sR G r j a)) : WW Z post pc ls (.ref (ad Z a) :: .int x :: .ref (ad Z r) :: st) G := by
  obtain ⟨Y, ⟨p, l, e, s, m, args, below, meth, c⟩, rm0, A⟩ := Z
  obtain ⟨⟨hx', hb⟩, hrr, ⟨hml, hown⟩, hts, hK, hD, hA, hw, hrm, hZ, hN⟩ := C
  intro H locs la hP hS hlh
  obtain ⟨q, hq, he⟩ := gA.e3 (G := G) hw hJ
  obtain ⟨qa, hqa, hea⟩ := gJ.e (G := G) hw hO
  have hn := hJ.2.2
  subst hx
  refine va_astq (r := (Cn, T, N)) hx' hb hK hP (hD G) hS q t qa ci he (ht _) hea hF.1 (vp_in_nI hj hn) d (fun H1 locs1 hP1 _ hS1 => kk H1 locs1 la ?_ hS1 hlh)
  rw [nI_clamp (by omega)] at hP1
  rw [← gw_set (G' := sR G r j a) (hD G) hq (e := .inl (Y.2.2.1 t, n, .inr (.inr (.inr (.inr (va_up (gq Y.2.1 G r fs) j (some (Y.2.1 a)))))))) ?_ (fun r' hr' => gc_sR hr')]
  · exact hP1
  · have h2 : Y.2.2.2.2 r = (3, t, n, fs) := by rw [hw]; exact hJ.2.1
    rw [h2]
    show Sum.inl (Y.2.2.1 t, n, Sum.inr (Sum.inr (Sum.inr (Sum.inr (gq Y.2.1 (sR G r j a) r fs))))) = _
    have h3 : gq Y.2.1 (sR G r j a) r fs = va_up (gq Y.2.1 G r fs) j (some (Y.2.1 a)) := by
      funext k
      simp only [gq, va_up, sR_s, hdy k]
      by_cases hk : k = j
      · simp [hk]
      · simp [hk]
    rw [h3]
theorem r_alen {r kd t n : Nat} {fs : Nat → Nat × Nat} {ty : FieldType} (C : gC Z w cc own ret nL rm) (d : decode cc pc = .ok (.arraylength, 1)) (hJ : gA w r 1 t n fs) (ht : ∀ cA, (gT cA)[t]? = some (cA t, ty)) (kk : WW Z post (pc + 1) ls (.int (nI n) :: st) G) : WW Z post pc ls (.ref (ad Z r) :: st) G := by
  obtain ⟨Y, ⟨p, l, e, s, m, args, below, meth, c⟩, rm0, A⟩ := Z
  obtain ⟨⟨hx', hb⟩, hrr, ⟨hml, hown⟩, hts, hK, hD, hA, hw, hrm, hZ, hN⟩ := C
  intro H locs la hP hS hlh
  obtain ⟨q, hq, he⟩ := gA.e1 (G := G) hw hJ
  exact va_alen hx' hb hK hP q t he (ht _) rfl d (kk H locs la hP hS hlh)
/-! static rows -/
def gTi (Z : gO) (f : List Int32) (t : Nat) : Prop := va_T .int t f.length (fun j => .int (f.getD j 0)) Z.2.2.2 Z.2.1.2.2.2.1 Z.2.1.2.2.2.1.heap
def gTl (Z : gO) (f : List Int64) (t : Nat) : Prop := va_T .long t f.length (fun j => .long (f.getD j 0)) Z.2.2.2 Z.2.1.2.2.2.1 Z.2.1.2.2.2.1.heap
theorem r_stI {idx : Nat} {n : String} (f : List Int32) (C : gC Z w cc own ret nL rm) (d : decode cc pc = .ok (.getstatic idx, 3)) (hq : (own, idx, n, "[I") ∈ gNF) (hn : n = "WORD_SORTS" ∧ f = tWs ∨ n = "WORD_VALUES" ∧ f = tWv ∨ n = "OPERATOR_RANKS" ∧ f = tOr ∨ n = "SHIFTS" ∧ f = tSh) (kk : ∀ t, gTi Z f t → WW Z post (pc + 3) ls (.ref t :: st) G) : WW Z post pc ls st G := by
  obtain ⟨Y, ⟨p, l, e, s, m, args, below, meth, c⟩, rm0, A⟩ := Z
  obtain ⟨⟨hx', hb⟩, hrr, ⟨hml, hown⟩, hts, hK, hD, hA, hw, hrm, hZ, hN⟩ := C
  intro H locs la hP hS hlh
  have hz : gZi n f A s s.heap := by
    rcases hn with ⟨rfl, rfl⟩ | ⟨rfl, rfl⟩ | ⟨rfl, rfl⟩ | ⟨rfl, rfl⟩
    · exact hZ.2.1
    · exact hZ.2.2.1
    · exact hZ.2.2.2.1
    · exact hZ.2.2.2.2
  obtain ⟨t, h1, h2⟩ := hz
  exact va_getsN hx' hb h1 hS hown ((hN.1 _ hq).use rfl) (fun _ h => h) d (kk t h2 H locs la hP hS hlh)
theorem r_stL {idx : Nat} (C : gC Z w cc own ret nL rm) (d : decode cc pc = .ok (.getstatic idx, 3)) (hq : (own, idx, "WORDS", "[J") ∈ gNF) (kk : ∀ t, gTl Z tWd t → WW Z post (pc + 3) ls (.ref t :: st) G) : WW Z post pc ls st G := by
  obtain ⟨Y, ⟨p, l, e, s, m, args, below, meth, c⟩, rm0, A⟩ := Z
  obtain ⟨⟨hx', hb⟩, hrr, ⟨hml, hown⟩, hts, hK, hD, hA, hw, hrm, hZ, hN⟩ := C
  intro H locs la hP hS hlh
  obtain ⟨t, h1, h2⟩ := hZ.1
  exact va_getsN hx' hb h1 hS hown ((hN.1 _ hq).use rfl) (fun _ h => h) d (kk t h2 H locs la hP hS hlh)
theorem r_tald {t : Nat} {f : List Int32} {x : Int32} (j : Nat) (C : gC Z w cc own ret nL rm) (d : decode cc pc = .ok (.iaload, 1)) (hT : gTi Z f t) (hn : f.length < 2 ^ 31) (hx : x = nI j) (hj : j < f.length) (kk : WW Z post (pc + 1) ls (.int (f.getD j 0) :: st) G) : WW Z post pc ls (.int x :: .ref t :: st) G := by
  obtain ⟨Y, ⟨p, l, e, s, m, args, below, meth, c⟩, rm0, A⟩ := Z
  obtain ⟨⟨hx', hb⟩, hrr, ⟨hml, hown⟩, hts, hK, hD, hA, hw, hrm, hZ, hN⟩ := C
  intro H locs la hP hS hlh
  subst hx
  exact va_ti hx' hb hT hS (vp_in_nI hj hn) (by rw [nI_clamp (by omega)]) d (kk H locs la hP hS hlh)
theorem r_tlld {t : Nat} {f : List Int64} {x : Int32} (j : Nat) (C : gC Z w cc own ret nL rm) (d : decode cc pc = .ok (.laload, 1)) (hT : gTl Z f t) (hn : f.length < 2 ^ 31) (hx : x = nI j) (hj : j < f.length) (kk : WW Z post (pc + 1) ls (.long (f.getD j 0) :: st) G) : WW Z post pc ls (.int x :: .ref t :: st) G := by
  obtain ⟨Y, ⟨p, l, e, s, m, args, below, meth, c⟩, rm0, A⟩ := Z
  obtain ⟨⟨hx', hb⟩, hrr, ⟨hml, hown⟩, hts, hK, hD, hA, hw, hrm, hZ, hN⟩ := C
  intro H locs la hP hS hlh
  subst hx
  exact va_tl hx' hb hT hS (vp_in_nI hj hn) (by rw [nI_clamp (by omega)]) d (kk H locs la hP hS hlh)
theorem r_tllen {t : Nat} {f : List Int64} (C : gC Z w cc own ret nL rm) (d : decode cc pc = .ok (.arraylength, 1)) (hT : gTl Z f t) (kk : WW Z post (pc + 1) ls (.int (nI f.length) :: st) G) : WW Z post pc ls (.ref t :: st) G := by
  obtain ⟨Y, ⟨p, l, e, s, m, args, below, meth, c⟩, rm0, A⟩ := Z
  obtain ⟨⟨hx', hb⟩, hrr, ⟨hml, hown⟩, hts, hK, hD, hA, hw, hrm, hZ, hN⟩ := C
  intro H locs la hP hS hlh
  exact va_tlen hx' hb hT hS rfl d (kk H locs la hP hS hlh)
theorem r_ldc {idx : Nat} {v : Int32} (C : gC Z w cc own ret nL rm) (d : decode cc pc = .ok (.ldc idx, 2)) (hc : Cond.constant own idx v ∈ lw_g) (kk : WW Z post (pc + 2) ls (.int v :: st) G) : WW Z post pc ls st G := by
  obtain ⟨Y, ⟨p, l, e, s, m, args, below, meth, c⟩, rm0, A⟩ := Z
  obtain ⟨⟨hx', hb⟩, hrr, ⟨hml, hown⟩, hts, -⟩ := C
  exact fun H locs la hP hS hlh => lv_ldc hx' hb hown (hts _ hc) d (kk H locs la hP hS hlh)
theorem r_ldcw {idx : Nat} {v : Int32} (C : gC Z w cc own ret nL rm) (d : decode cc pc = .ok (.ldc_w idx, 3)) (hc : Cond.constant own idx v ∈ lw_g) (kk : WW Z post (pc + 3) ls (.int v :: st) G) : WW Z post pc ls st G := by
  obtain ⟨Y, ⟨p, l, e, s, m, args, below, meth, c⟩, rm0, A⟩ := Z
  obtain ⟨⟨hx', hb⟩, hrr, ⟨hml, hown⟩, hts, -⟩ := C
  exact fun H locs la hP hS hlh => lv_ldcw hx' hb hown (hts _ hc) d (kk H locs la hP hS hlh)
theorem r_ldc2 {idx : Nat} {v : Int64} (C : gC Z w cc own ret nL rm) (d : decode cc pc = .ok (.ldc2_w idx, 3)) (hc : Cond.constantLong own idx v ∈ lw_g) (kk : WW Z post (pc + 3) ls (.long v :: st) G) : WW Z post pc ls st G := by
  obtain ⟨Y, ⟨p, l, e, s, m, args, below, meth, c⟩, rm0, A⟩ := Z
  obtain ⟨⟨hx', hb⟩, hrr, ⟨hml, hown⟩, hts, -⟩ := C
  exact fun H locs la hP hS hlh => lv_ldc2 hx' hb hown (hts _ hc) d (kk H locs la hP hS hlh)
/-! ends -/
def qi (P : Int32 → gS → Prop) : Option Value → gS → Prop := fun v G => ∃ r, v = some (.int r) ∧ P r G
def ql (P : Int64 → gS → Prop) : Option Value → gS → Prop := fun v G => ∃ r, v = some (.long r) ∧ P r G
def qv (P : gS → Prop) : Option Value → gS → Prop := fun v G => v = none ∧ P G
def qr (f : Nat → Nat) (P : Nat → gS → Prop) : Option Value → gS → Prop := fun v G => ∃ r, v = some (.ref (f r)) ∧ P r G
theorem r_ireturn {P : Int32 → gS → Prop} {x : Int32} (C : gC Z w cc own (some .int) nL rm) (d : decode cc pc = .ok (.ireturn, 1)) (h : P x G) : WW Z (qi P) pc ls [.int x] G := by
  obtain ⟨Y, ⟨p, l, e, s, m, args, below, meth, c⟩, rm0, A⟩ := Z
  obtain ⟨⟨hx', hb⟩, ⟨hr, hlk⟩, -⟩ := C
  exact fun H locs la hP hS hlh => W.iret hx' hb hr (fun t ht hW => ⟨⟨_, G, rfl, ⟨x, rfl, h⟩, by rw [ht]; exact hP⟩, hS.F ht⟩) hS.2.2 d hlk
theorem r_zreturn {P : Int32 → gS → Prop} {x : Int32} (C : gC Z w cc own (some .boolean) nL rm) (d : decode cc pc = .ok (.ireturn, 1)) (hn : narrow .boolean (.int x) = .int x) (h : P x G) : WW Z (qi P) pc ls [.int x] G := by
  obtain ⟨Y, ⟨p, l, e, s, m, args, below, meth, c⟩, rm0, A⟩ := Z
  obtain ⟨⟨hx', hb⟩, ⟨hr, hlk⟩, -⟩ := C
  exact fun H locs la hP hS hlh => W.zret hx' hb hr hn (fun t ht hW => ⟨⟨_, G, rfl, ⟨x, rfl, h⟩, by rw [ht]; exact hP⟩, hS.F ht⟩) hS.2.2 d hlk
theorem r_lreturn {P : Int64 → gS → Prop} {x : Int64} (C : gC Z w cc own (some .long) nL rm) (d : decode cc pc = .ok (.lreturn, 1)) (h : P x G) : WW Z (ql P) pc ls [.long x] G := by
  obtain ⟨Y, ⟨p, l, e, s, m, args, below, meth, c⟩, rm0, A⟩ := Z
  obtain ⟨⟨hx', hb⟩, ⟨hr, hlk⟩, -⟩ := C
  exact fun H locs la hP hS hlh => W.lret hx' hb hr (fun t ht hW => ⟨⟨_, G, rfl, ⟨x, rfl, h⟩, by rw [ht]; exact hP⟩, hS.F ht⟩) hS.2.2 d hlk
theorem r_areturn {P : Nat → gS → Prop} {x : Nat} {n : String} (C : gC Z w cc own (some (.object n)) nL rm) (d : decode cc pc = .ok (.areturn, 1)) (h : P x G) : WW Z (qr (ad Z) P) pc ls [.ref (ad Z x)] G := by
  obtain ⟨Y, ⟨p, l, e, s, m, args, below, meth, c⟩, rm0, A⟩ := Z
  obtain ⟨⟨hx', hb⟩, ⟨hr, hlk⟩, -⟩ := C
  exact fun H locs la hP hS hlh => W.aret hx' hb hr (Or.inl ⟨n, rfl⟩) (Or.inr ⟨_, rfl⟩) (fun t ht hW => ⟨⟨_, G, rfl, ⟨x, rfl, h⟩, by rw [ht]; exact hP⟩, hS.F ht⟩) hS.2.2 d hlk
theorem r_return {P : gS → Prop} (C : gC Z w cc own none nL rm) (d : decode cc pc = .ok (.return_, 1)) (h : P G) : WW Z (qv P) pc ls [] G := by
  obtain ⟨Y, ⟨p, l, e, s, m, args, below, meth, c⟩, rm0, A⟩ := Z
  obtain ⟨⟨hx', hb⟩, ⟨hr, hlk⟩, -⟩ := C
  exact fun H locs la hP hS hlh => W.vret hx' hb hr (fun t ht hW => ⟨⟨_, G, rfl, ⟨rfl, h⟩, by rw [ht]; exact hP⟩, hS.F ht⟩) hS.2.2 d hlk
end R
end
section
/-! calls -/
def gK (own : String) (idx : Nat) (y : MethodName) (cy : ByteArray) (ny : Nat) (rty : Option FieldType) (n : Nat) : Prop := Cond.code y cy ny rty ∈ lw_g ∧ Cond.methodLink own idx y ∈ lw_g ∧ Cond.initialized y.cls ∈ lw_g ∧ (y.cls ≠ "java/lang/invoke/MethodHandle" ∧ y.cls ≠ "java/lang/invoke/VarHandle" ∧ (parseMethodDescriptor y.desc).map (fun d => d.parameters.length) = some n)
def gKV (own : String) (idx : Nat) (y : MethodName) (cy : ByteArray) (ny : Nat) (rty : Option FieldType) (n : Nat) : Prop := gK own idx y cy ny rty n ∧ Cond.instanceMethod y ∈ lw_g ∧ Cond.selects y.cls y y ∈ lw_g
def gKS (own : String) (idx : Nat) (y : MethodName) (cy : ByteArray) (ny : Nat) (rty : Option FieldType) (n : Nat) : Prop := gK own idx y cy ny rty n ∧ Cond.static y ∈ lw_g
theorem gP_blind {Y : gY} {G : gS} {sz : Nat} {av : List Value} : FrameBlind (va_Pc av (gP Y G sz)) := by
  intro a U g mk h
  obtain ⟨h0, h1, h2, h3, h4, h5, h6⟩ := h
  exact ⟨h0, h1, h2, va_K.moved (u := U) (U := U.calling g mk a) (Vm.Alike.refl U.vm) h3, h4, gZ.to (s := U) (U := U.calling g mk a) h5 (Vm.Alike.refl U.vm) (fun _ _ _ => rfl) (fun _ h => h), ⟨fun q hq => (h6.1 q hq).same rfl rfl, h6.2.same rfl rfl⟩⟩
theorem ww_call {p : Program} {l : Launch} {e : Env} {R : Room} {s : State} {m : MethodId} {args : Array Value} {below : List Frame} {meth : Method} {c : Code} {H : Heap} {locs : List Loc} {Q : State → Prop} {Y : gY} {A A1 : Nat → Prop} {post' : Option Value → gS → Prop} {pc : Nat} {la : Array Slot} {st0 rest : List Value} {a : Array Value} {free : Addr → Prop}
    (hr : va_Run p l e R s m args below meth c H locs 0 0 0 0 (F0 m pc la st0) rest (gQ Y A1 post' a) free) (hS : va_S A s.heap H locs) (hA : ∀ q, q < H.size → A1 q → A q) (hf : ∀ q, free q → A q)
    (kk : ∀ (v : Option Value) (G' : gS) (H1 : Heap) (locs1 : List Loc), post' v G' → va_P Y.1 vwCl (gw Y G') H1 → va_S A s.heap H1 locs1 → W p l e R s m args below meth c H1 locs1 0 0 Q (F0 m (pc + 3) la (v.toList ++ rest))) : W p l e R s m args below meth c H locs 0 0 Q (F0 m pc la st0) := by
  intro T hT X
  obtain ⟨v, st₀, t, T', L, h0, X', hL, e1, e2, ⟨⟨v', G', hv, hp, hb⟩, hz, hk⟩, st⟩ := hr T hT X
  cases hv
  rw [h0] at hz hk
  obtain ⟨t2, a1, b1⟩ := kk v G' T'.heap (locs ++ L) hp (by rw [e1]; exact hb)
    ⟨Nat.le_trans hS.1 (by rw [e1]; exact hz), fun q h1 h2 => by rw [e1, hk q (Nat.lt_of_lt_of_le h1 hS.1) (fun z => h2 (hA q (Nat.lt_of_lt_of_le h1 hS.1) z))]; exact hS.2.1 q h1 h2, fun q hq => by
      rcases List.mem_append.mp hq with h | h
      · exact hS.2.2 q h
      · exact hf _ (hL q h)⟩ T' rfl X'
  exact ⟨t2, st t2 a1, b1⟩
theorem gA_in {Y : gY} {G : gS} {A : Nat → Prop} {H0 H : Heap} {locs : List Loc} (hD : va_D A (gw Y G)) (hS : va_S A H0 H locs) (hA : ∀ q, H0.size ≤ q → A q) : ∀ q, va_A (gw Y G) H.size q → A q := by
  intro q h
  rcases h with ⟨k, e, h⟩ | h
  · exact hD.2 k (q, e) h
  · exact hA q (Nat.le_trans hS.1 h)
theorem g_pre {Y : gY} {G : gS} {A : Nat → Prop} {s U : State} {H : Heap} {locs : List Loc} {av : List Value} (hK : va_K Y.1 vwCl (gT Y.2.2.1) s) (hD : va_D A (gw Y G)) (hA : ∀ q, s.heap.size ≤ q → A q) (hZ : gZ A s s.heap) (hN : gNw s) (hP : va_P Y.1 vwCl (gw Y G) H) (hS : va_S A s.heap H locs) (hU : U.heap = H) (hW : s.WarmedH U.vm) : va_Pc av (gP Y G H.size) av.toArray U :=
  ⟨rfl, by rw [hU], by rw [hU]; exact hP, va_K.moved hW.alike hK, hD.weaken (fun _ _ _ _ => trivial), by rw [hU]; exact gZ.to hZ hW.alike hS.2.1 (gA_in hD hS hA), hN.warm hW⟩
section R
variable {Z : gO} {w : gU} {cc : ByteArray} {own : String} {ret : Option FieldType} {nL : Nat} {rm : Nat × Nat} {post : Option Value → gS → Prop} {pc : Nat} {ls : List (Option Value)} {st st0 : List Value} {G : gS}
variable {r ci N idx ny n : Nat} {fs : Nat → Nat × Nat} {T : u_T} {y : MethodName} {cy : ByteArray} {rty : Option FieldType} {rmc : Nat × Nat} {As : List Value} {post' : Option Value → gS → Prop}
theorem r_callV (C : gC Z w cc own ret nL rm) (hlen : ls.length = nL) (d : decode cc pc = .ok (.invokevirtual idx, 3)) (hk : gKV own idx y cy ny rty n) (hF : gF ci y.cls T N) (hJ : gJ w r ci N fs) (hM : ∀ l, gM Z.1 l y cy ny rty rmc (.ref (ad Z r) :: As) G post') (hst : As.reverse ++ .ref (ad Z r) :: st = st0) (hn : As.length = n) (hcat : (st.map fun v => v.category).sum ≤ 8) (hrm : rmc.1 + 1 ≤ rm.1 ∧ 8 + (ny + 11) + rmc.2 ≤ rm.2) (kk : ∀ v G', post' v G' → WW Z post (pc + 3) ls (v.toList ++ st) G') : WW Z post pc ls st0 G := by
  obtain ⟨Y, ⟨p, l, e, s, m, args, below, meth, c⟩, rm0, A⟩ := Z
  obtain ⟨⟨hx, hb⟩, hrr, ⟨hml, hown⟩, hts, hK, hD, hA, hw, hrm0, hZ, hN⟩ := C
  subst hrm0
  intro H locs la hP hS hlh
  subst hst
  obtain ⟨q, hq, he⟩ := gJ.e (G := G) hw hJ
  obtain ⟨⟨k1, k2, k3, k4⟩, k5, k6⟩ := hk
  have hAi := gA_in (hD G) hS hA
  refine ww_call (va_runV (As := As) (rest := st) (Ts := lw_g) ⟨hx, hb, hml, hown, hts⟩ (hM l H.size) ⟨callB_of n hts (lw_gg k1) rfl rfl rfl (hts _ k3) (hts _ k2) k4 hrm, hts _ k5, hts _ k6⟩ ⟨gP_blind, va_recv hK hP hF.1 he, fun U hU hW => g_pre hK (hD G) hA hZ hN hP hS hU hW⟩ rfl hn (hlh.1.trans hlen) rfl (lv_room hcat) d ⟨Nat.zero_le _, Nat.zero_le _⟩) hS (fun q _ h => hAi q h) hAi (fun v G' H1 locs1 hp hP1 hS1 => kk v G' hp H1 locs1 la hP1 hS1 hlh)
theorem r_callS (C : gC Z w cc own ret nL rm) (hlen : ls.length = nL) (d : decode cc pc = .ok (.invokestatic idx, 3)) (hk : gKS own idx y cy ny rty n) (hM : ∀ l, gM Z.1 l y cy ny rty rmc As G post') (hst : As.reverse ++ st = st0) (hn : As.length = n) (hcat : (st.map fun v => v.category).sum ≤ 8) (hrm : rmc.1 + 1 ≤ rm.1 ∧ 8 + (ny + 11) + rmc.2 ≤ rm.2) (kk : ∀ v G', post' v G' → WW Z post (pc + 3) ls (v.toList ++ st) G') : WW Z post pc ls st0 G := by
  obtain ⟨Y, ⟨p, l, e, s, m, args, below, meth, c⟩, rm0, A⟩ := Z
  obtain ⟨⟨hx, hb⟩, hrr, ⟨hml, hown⟩, hts, hK, hD, hA, hw, hrm0, hZ, hN⟩ := C
  subst hrm0
  intro H locs la hP hS hlh
  subst hst
  obtain ⟨⟨k1, k2, k3, k4⟩, k5⟩ := hk
  have hAi := gA_in (hD G) hS hA
  refine ww_call (va_runS (As := As) (rest := st) (Ts := lw_g) ⟨hx, hb, hml, hown, hts⟩ (hM l H.size) ⟨callB_of n hts (lw_gg k1) rfl rfl rfl (hts _ k3) (hts _ k2) k4 hrm, hts _ k5⟩ ⟨gP_blind, fun U hU hW => g_pre hK (hD G) hA hZ hN hP hS hU hW⟩ rfl hn (hlh.1.trans hlen) rfl (lv_room hcat) d ⟨Nat.zero_le _, Nat.zero_le _⟩) hS (fun q _ h => hAi q h) hAi (fun v G' H1 locs1 hp hP1 hS1 => kk v G' hp H1 locs1 la hP1 hS1 hlh)
/-- Hall's call of BootHall.isBelow, a private one of its host -/
theorem r_callSN (C : gC Z w cc own ret nL rm) (hlen : ls.length = nL) (d : decode cc pc = .ok (.invokestatic 61, 3)) (ho : own = "BootHall$Hall") (hy : y = ⟨"BootHall", "isBelow", "(II)Z"⟩) (k1 : Cond.code y cy ny rty ∈ lw_g) (k3 : Cond.initialized y.cls ∈ lw_g) (k5 : Cond.static y ∈ lw_g) (hM : ∀ l, gM Z.1 l y cy ny rty rmc As G post') (hst : As.reverse ++ st = st0) (hn : As.length = 2) (hcat : (st.map fun v => v.category).sum ≤ 8) (hrm : rmc.1 + 1 ≤ rm.1 ∧ 8 + (ny + 11) + rmc.2 ≤ rm.2) (kk : ∀ v G', post' v G' → WW Z post (pc + 3) ls (v.toList ++ st) G') : WW Z post pc ls st0 G := by
  obtain ⟨Y, ⟨p, l, e, s, m, args, below, meth, c⟩, rm0, A⟩ := Z
  obtain ⟨⟨hx, hb⟩, hrr, ⟨hml, hown⟩, hts, hK, hD, hA, hw, hrm0, hZ, hN⟩ := C
  subst hrm0
  intro H locs la hP hS hlh
  subst hst
  subst hy
  subst ho
  have hAi := gA_in (hD G) hS hA
  refine ww_call (va_runSN (As := As) (rest := st) (Ts := lw_g) (host := "BootHall") (n := 2) ⟨hx, hb, hml, hown, hts⟩ (hM l H.size) ⟨va_cnB 2 hts (lw_gg k1) rfl rfl rfl hN.2 (hts _ k3) (by decide +kernel) hrm, hts _ k5, trivial⟩ ⟨gP_blind, fun U hU hW => g_pre hK (hD G) hA hZ hN hP hS hU hW⟩ rfl hn (hlh.1.trans hlen) rfl (lv_room hcat) d ⟨Nat.zero_le _, Nat.zero_le _⟩) hS (fun q _ h => hAi q h) hAi (fun v G' H1 locs1 hp hP1 hS1 => kk v G' hp H1 locs1 la hP1 hS1 hlh)
variable {Pi : Int32 → gS → Prop} {Pv : gS → Prop} {Pl : Int64 → gS → Prop} {Pr : Nat → gS → Prop}
theorem r_callVi (C : gC Z w cc own ret nL rm) (hlen : ls.length = nL) (d : decode cc pc = .ok (.invokevirtual idx, 3)) (hk : gKV own idx y cy ny rty n) (hF : gF ci y.cls T N) (hJ : gJ w r ci N fs) (hM : ∀ l, gM Z.1 l y cy ny rty rmc (.ref (ad Z r) :: As) G (qi Pi)) (hst : As.reverse ++ .ref (ad Z r) :: st = st0) (hn : As.length = n) (hcat : (st.map fun v => v.category).sum ≤ 8) (hrm : rmc.1 + 1 ≤ rm.1 ∧ 8 + (ny + 11) + rmc.2 ≤ rm.2) (kk : ∀ x G', Pi x G' → WW Z post (pc + 3) ls (.int x :: st) G') : WW Z post pc ls st0 G :=
  r_callV C hlen d hk hF hJ hM hst hn hcat hrm (fun v G' ⟨x, hv, hp⟩ => by subst hv; exact kk x G' hp)
theorem r_callVv (C : gC Z w cc own ret nL rm) (hlen : ls.length = nL) (d : decode cc pc = .ok (.invokevirtual idx, 3)) (hk : gKV own idx y cy ny rty n) (hF : gF ci y.cls T N) (hJ : gJ w r ci N fs) (hM : ∀ l, gM Z.1 l y cy ny rty rmc (.ref (ad Z r) :: As) G (qv Pv)) (hst : As.reverse ++ .ref (ad Z r) :: st = st0) (hn : As.length = n) (hcat : (st.map fun v => v.category).sum ≤ 8) (hrm : rmc.1 + 1 ≤ rm.1 ∧ 8 + (ny + 11) + rmc.2 ≤ rm.2) (kk : ∀ G', Pv G' → WW Z post (pc + 3) ls st G') : WW Z post pc ls st0 G :=
  r_callV C hlen d hk hF hJ hM hst hn hcat hrm (fun v G' ⟨hv, hp⟩ => by subst hv; exact kk G' hp)
theorem r_callVl (C : gC Z w cc own ret nL rm) (hlen : ls.length = nL) (d : decode cc pc = .ok (.invokevirtual idx, 3)) (hk : gKV own idx y cy ny rty n) (hF : gF ci y.cls T N) (hJ : gJ w r ci N fs) (hM : ∀ l, gM Z.1 l y cy ny rty rmc (.ref (ad Z r) :: As) G (ql Pl)) (hst : As.reverse ++ .ref (ad Z r) :: st = st0) (hn : As.length = n) (hcat : (st.map fun v => v.category).sum ≤ 8) (hrm : rmc.1 + 1 ≤ rm.1 ∧ 8 + (ny + 11) + rmc.2 ≤ rm.2) (kk : ∀ x G', Pl x G' → WW Z post (pc + 3) ls (.long x :: st) G') : WW Z post pc ls st0 G :=
  r_callV C hlen d hk hF hJ hM hst hn hcat hrm (fun v G' ⟨x, hv, hp⟩ => by subst hv; exact kk x G' hp)
theorem r_callVr (C : gC Z w cc own ret nL rm) (hlen : ls.length = nL) (d : decode cc pc = .ok (.invokevirtual idx, 3)) (hk : gKV own idx y cy ny rty n) (hF : gF ci y.cls T N) (hJ : gJ w r ci N fs) (hM : ∀ l, gM Z.1 l y cy ny rty rmc (.ref (ad Z r) :: As) G (qr (ad Z) Pr)) (hst : As.reverse ++ .ref (ad Z r) :: st = st0) (hn : As.length = n) (hcat : (st.map fun v => v.category).sum ≤ 8) (hrm : rmc.1 + 1 ≤ rm.1 ∧ 8 + (ny + 11) + rmc.2 ≤ rm.2) (kk : ∀ x G', Pr x G' → WW Z post (pc + 3) ls (.ref (ad Z x) :: st) G') : WW Z post pc ls st0 G :=
  r_callV C hlen d hk hF hJ hM hst hn hcat hrm (fun v G' ⟨x, hv, hp⟩ => by subst hv; exact kk x G' hp)
theorem r_callSi (C : gC Z w cc own ret nL rm) (hlen : ls.length = nL) (d : decode cc pc = .ok (.invokestatic idx, 3)) (hk : gKS own idx y cy ny rty n) (hM : ∀ l, gM Z.1 l y cy ny rty rmc As G (qi Pi)) (hst : As.reverse ++ st = st0) (hn : As.length = n) (hcat : (st.map fun v => v.category).sum ≤ 8) (hrm : rmc.1 + 1 ≤ rm.1 ∧ 8 + (ny + 11) + rmc.2 ≤ rm.2) (kk : ∀ x G', Pi x G' → WW Z post (pc + 3) ls (.int x :: st) G') : WW Z post pc ls st0 G :=
  r_callS C hlen d hk hM hst hn hcat hrm (fun v G' ⟨x, hv, hp⟩ => by subst hv; exact kk x G' hp)
theorem r_callSl (C : gC Z w cc own ret nL rm) (hlen : ls.length = nL) (d : decode cc pc = .ok (.invokestatic idx, 3)) (hk : gKS own idx y cy ny rty n) (hM : ∀ l, gM Z.1 l y cy ny rty rmc As G (ql Pl)) (hst : As.reverse ++ st = st0) (hn : As.length = n) (hcat : (st.map fun v => v.category).sum ≤ 8) (hrm : rmc.1 + 1 ≤ rm.1 ∧ 8 + (ny + 11) + rmc.2 ≤ rm.2) (kk : ∀ x G', Pl x G' → WW Z post (pc + 3) ls (.long x :: st) G') : WW Z post pc ls st0 G :=
  r_callS C hlen d hk hM hst hn hcat hrm (fun v G' ⟨x, hv, hp⟩ => by subst hv; exact kk x G' hp)
theorem r_callSv (C : gC Z w cc own ret nL rm) (hlen : ls.length = nL) (d : decode cc pc = .ok (.invokestatic idx, 3)) (hk : gKS own idx y cy ny rty n) (hM : ∀ l, gM Z.1 l y cy ny rty rmc As G (qv Pv)) (hst : As.reverse ++ st = st0) (hn : As.length = n) (hcat : (st.map fun v => v.category).sum ≤ 8) (hrm : rmc.1 + 1 ≤ rm.1 ∧ 8 + (ny + 11) + rmc.2 ≤ rm.2) (kk : ∀ G', Pv G' → WW Z post (pc + 3) ls st G') : WW Z post pc ls st0 G :=
  r_callS C hlen d hk hM hst hn hcat hrm (fun v G' ⟨hv, hp⟩ => by subst hv; exact kk G' hp)
theorem r_callSNi (C : gC Z w cc own ret nL rm) (hlen : ls.length = nL) (d : decode cc pc = .ok (.invokestatic 61, 3)) (ho : own = "BootHall$Hall") (hy : y = ⟨"BootHall", "isBelow", "(II)Z"⟩) (k1 : Cond.code y cy ny rty ∈ lw_g) (k3 : Cond.initialized y.cls ∈ lw_g) (k5 : Cond.static y ∈ lw_g) (hM : ∀ l, gM Z.1 l y cy ny rty rmc As G (qi Pi)) (hst : As.reverse ++ st = st0) (hn : As.length = 2) (hcat : (st.map fun v => v.category).sum ≤ 8) (hrm : rmc.1 + 1 ≤ rm.1 ∧ 8 + (ny + 11) + rmc.2 ≤ rm.2) (kk : ∀ x G', Pi x G' → WW Z post (pc + 3) ls (.int x :: st) G') : WW Z post pc ls st0 G :=
  r_callSN C hlen d ho hy k1 k3 k5 hM hst hn hcat hrm (fun v G' ⟨x, hv, hp⟩ => by subst hv; exact kk x G' hp)
end R
end
