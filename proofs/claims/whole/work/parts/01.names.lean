-- ===== PART A: goes FIRST, ahead of the names: the tables' words, and 'selects' of the private methods out of them =====
/-- a private method of a class that the tables say can be made, by its rows of tables_1 -/
def lw_okq (q : MethodName × Nat) : Prop := (q.1.cls ≠ "java/lang/invoke/MethodHandle" ∧ q.1.cls ≠ "java/lang/invoke/VarHandle") ∧ Cond.instantiable q.1.cls q.2 ∈ tables_1 ∧ Cond.privateMethod q.1 ∈ tables_1 ∧ Cond.instanceMethod q.1 ∈ tables_1
theorem lw_p0 : lw_okq (⟨"HoarseHill", "found", "(I)I"⟩, 13) := ⟨⟨by decide +kernel, by decide +kernel⟩, List.mem_of_getElem? (i := 15) (by decide +kernel), List.mem_of_getElem? (i := 274) (by decide +kernel), List.mem_of_getElem? (i := 275) (by decide +kernel)⟩
theorem lw_p1 : lw_okq (⟨"HoarseHill", "foundNothing", "(I)I"⟩, 13) := ⟨⟨by decide +kernel, by decide +kernel⟩, List.mem_of_getElem? (i := 15) (by decide +kernel), List.mem_of_getElem? (i := 283) (by decide +kernel), List.mem_of_getElem? (i := 284) (by decide +kernel)⟩
theorem lw_p2 : lw_okq (⟨"HoarseHill$Tape", "readLaw", "(LHoarseHill$Hill;)V"⟩, 4) := ⟨⟨by decide +kernel, by decide +kernel⟩, List.mem_of_getElem? (i := 107) (by decide +kernel), List.mem_of_getElem? (i := 351) (by decide +kernel), List.mem_of_getElem? (i := 352) (by decide +kernel)⟩
theorem lw_p3 : lw_okq (⟨"HoarseHill$Tape", "take", "(I)V"⟩, 4) := ⟨⟨by decide +kernel, by decide +kernel⟩, List.mem_of_getElem? (i := 107) (by decide +kernel), List.mem_of_getElem? (i := 355) (by decide +kernel), List.mem_of_getElem? (i := 356) (by decide +kernel)⟩
theorem lw_p4 : lw_okq (⟨"HoarseHill$Tape", "letterAt", "(I)I"⟩, 4) := ⟨⟨by decide +kernel, by decide +kernel⟩, List.mem_of_getElem? (i := 107) (by decide +kernel), List.mem_of_getElem? (i := 359) (by decide +kernel), List.mem_of_getElem? (i := 360) (by decide +kernel)⟩
theorem lw_p5 : lw_okq (⟨"HoarseHill$Tape", "takeNumber", "(II)I"⟩, 4) := ⟨⟨by decide +kernel, by decide +kernel⟩, List.mem_of_getElem? (i := 107) (by decide +kernel), List.mem_of_getElem? (i := 363) (by decide +kernel), List.mem_of_getElem? (i := 364) (by decide +kernel)⟩
theorem lw_p6 : lw_okq (⟨"HoarseHill$Tape", "figuresAt", "(I)I"⟩, 4) := ⟨⟨by decide +kernel, by decide +kernel⟩, List.mem_of_getElem? (i := 107) (by decide +kernel), List.mem_of_getElem? (i := 367) (by decide +kernel), List.mem_of_getElem? (i := 368) (by decide +kernel)⟩
theorem lw_p7 : lw_okq (⟨"HoarseHill$Tape", "readMotions", "(LHoarseHill$Hill;)V"⟩, 4) := ⟨⟨by decide +kernel, by decide +kernel⟩, List.mem_of_getElem? (i := 107) (by decide +kernel), List.mem_of_getElem? (i := 374) (by decide +kernel), List.mem_of_getElem? (i := 375) (by decide +kernel)⟩
theorem lw_p8 : lw_okq (⟨"HoarseHill$Tape", "readMotion", "(LHoarseHill$Hill;)V"⟩, 4) := ⟨⟨by decide +kernel, by decide +kernel⟩, List.mem_of_getElem? (i := 107) (by decide +kernel), List.mem_of_getElem? (i := 378) (by decide +kernel), List.mem_of_getElem? (i := 379) (by decide +kernel)⟩
theorem lw_p9 : lw_okq (⟨"HoarseHill$Tape", "readMembers", "(LHoarseHill$Hill;)V"⟩, 4) := ⟨⟨by decide +kernel, by decide +kernel⟩, List.mem_of_getElem? (i := 107) (by decide +kernel), List.mem_of_getElem? (i := 386) (by decide +kernel), List.mem_of_getElem? (i := 387) (by decide +kernel)⟩
theorem lw_p10 : lw_okq (⟨"HoarseHill$Tape", "readMember", "(LHoarseHill$Hill;)V"⟩, 4) := ⟨⟨by decide +kernel, by decide +kernel⟩, List.mem_of_getElem? (i := 107) (by decide +kernel), List.mem_of_getElem? (i := 390) (by decide +kernel), List.mem_of_getElem? (i := 391) (by decide +kernel)⟩
theorem lw_p11 : lw_okq (⟨"HoarseHill$Planning", "tryDay", "(II)V"⟩, 7) := ⟨⟨by decide +kernel, by decide +kernel⟩, List.mem_of_getElem? (i := 162) (by decide +kernel), List.mem_of_getElem? (i := 564) (by decide +kernel), List.mem_of_getElem? (i := 565) (by decide +kernel)⟩
theorem lw_p12 : lw_okq (⟨"HoarseHill$Planning", "closePlan", "(II)V"⟩, 7) := ⟨⟨by decide +kernel, by decide +kernel⟩, List.mem_of_getElem? (i := 162) (by decide +kernel), List.mem_of_getElem? (i := 569) (by decide +kernel), List.mem_of_getElem? (i := 570) (by decide +kernel)⟩
theorem lw_p13 : lw_okq (⟨"HoarseHill$Planning", "takePath", "(II)V"⟩, 7) := ⟨⟨by decide +kernel, by decide +kernel⟩, List.mem_of_getElem? (i := 162) (by decide +kernel), List.mem_of_getElem? (i := 574) (by decide +kernel), List.mem_of_getElem? (i := 575) (by decide +kernel)⟩
theorem lw_p14 : lw_okq (⟨"HoarseHill$Planning", "keepBreaths", "(I)V"⟩, 7) := ⟨⟨by decide +kernel, by decide +kernel⟩, List.mem_of_getElem? (i := 162) (by decide +kernel), List.mem_of_getElem? (i := 578) (by decide +kernel), List.mem_of_getElem? (i := 579) (by decide +kernel)⟩
theorem lw_p15 : lw_okq (⟨"HoarseHill$Planning", "giveBreathsBack", "(I)V"⟩, 7) := ⟨⟨by decide +kernel, by decide +kernel⟩, List.mem_of_getElem? (i := 162) (by decide +kernel), List.mem_of_getElem? (i := 584) (by decide +kernel), List.mem_of_getElem? (i := 585) (by decide +kernel)⟩
def lw_privs_1 : List (MethodName × Nat) := [(⟨"HoarseHill", "found", "(I)I"⟩, 13), (⟨"HoarseHill", "foundNothing", "(I)I"⟩, 13), (⟨"HoarseHill$Tape", "readLaw", "(LHoarseHill$Hill;)V"⟩, 4), (⟨"HoarseHill$Tape", "take", "(I)V"⟩, 4), (⟨"HoarseHill$Tape", "letterAt", "(I)I"⟩, 4), (⟨"HoarseHill$Tape", "takeNumber", "(II)I"⟩, 4), (⟨"HoarseHill$Tape", "figuresAt", "(I)I"⟩, 4), (⟨"HoarseHill$Tape", "readMotions", "(LHoarseHill$Hill;)V"⟩, 4), (⟨"HoarseHill$Tape", "readMotion", "(LHoarseHill$Hill;)V"⟩, 4), (⟨"HoarseHill$Tape", "readMembers", "(LHoarseHill$Hill;)V"⟩, 4), (⟨"HoarseHill$Tape", "readMember", "(LHoarseHill$Hill;)V"⟩, 4), (⟨"HoarseHill$Planning", "tryDay", "(II)V"⟩, 7), (⟨"HoarseHill$Planning", "closePlan", "(II)V"⟩, 7), (⟨"HoarseHill$Planning", "takePath", "(II)V"⟩, 7), (⟨"HoarseHill$Planning", "keepBreaths", "(I)V"⟩, 7), (⟨"HoarseHill$Planning", "giveBreathsBack", "(I)V"⟩, 7)]
theorem lw_r1 : ∀ q ∈ lw_privs_1, lw_okq q := List.forall_mem_cons.mpr ⟨lw_p0, List.forall_mem_cons.mpr ⟨lw_p1, List.forall_mem_cons.mpr ⟨lw_p2, List.forall_mem_cons.mpr ⟨lw_p3, List.forall_mem_cons.mpr ⟨lw_p4, List.forall_mem_cons.mpr ⟨lw_p5, List.forall_mem_cons.mpr ⟨lw_p6, List.forall_mem_cons.mpr ⟨lw_p7, List.forall_mem_cons.mpr ⟨lw_p8, List.forall_mem_cons.mpr ⟨lw_p9, List.forall_mem_cons.mpr ⟨lw_p10, List.forall_mem_cons.mpr ⟨lw_p11, List.forall_mem_cons.mpr ⟨lw_p12, List.forall_mem_cons.mpr ⟨lw_p13, List.forall_mem_cons.mpr ⟨lw_p14, List.forall_mem_cons.mpr ⟨lw_p15, fun _ h => absurd h List.not_mem_nil⟩⟩⟩⟩⟩⟩⟩⟩⟩⟩⟩⟩⟩⟩⟩⟩
theorem lw_p16 : lw_okq (⟨"HoarseHill$Foretelling", "carriedInOrder", "(II)I"⟩, 3) := ⟨⟨by decide +kernel, by decide +kernel⟩, List.mem_of_getElem? (i := 146) (by decide +kernel), List.mem_of_getElem? (i := 604) (by decide +kernel), List.mem_of_getElem? (i := 605) (by decide +kernel)⟩
theorem lw_p17 : lw_okq (⟨"HoarseHill$Foretelling", "give", "(I)I"⟩, 3) := ⟨⟨by decide +kernel, by decide +kernel⟩, List.mem_of_getElem? (i := 146) (by decide +kernel), List.mem_of_getElem? (i := 616) (by decide +kernel), List.mem_of_getElem? (i := 617) (by decide +kernel)⟩
theorem lw_p18 : lw_okq (⟨"HoarseHill$Matching", "comesAbout", "(III)I"⟩, 3) := ⟨⟨by decide +kernel, by decide +kernel⟩, List.mem_of_getElem? (i := 190) (by decide +kernel), List.mem_of_getElem? (i := 656) (by decide +kernel), List.mem_of_getElem? (i := 657) (by decide +kernel)⟩
theorem lw_p19 : lw_okq (⟨"HoarseHill$Foretelling", "catchColds", "(II)I"⟩, 3) := ⟨⟨by decide +kernel, by decide +kernel⟩, List.mem_of_getElem? (i := 146) (by decide +kernel), List.mem_of_getElem? (i := 686) (by decide +kernel), List.mem_of_getElem? (i := 687) (by decide +kernel)⟩
theorem lw_p20 : lw_okq (⟨"HoarseHill$Foretelling", "breathOfAll", "()I"⟩, 3) := ⟨⟨by decide +kernel, by decide +kernel⟩, List.mem_of_getElem? (i := 146) (by decide +kernel), List.mem_of_getElem? (i := 705) (by decide +kernel), List.mem_of_getElem? (i := 706) (by decide +kernel)⟩
theorem lw_p21 : lw_okq (⟨"HoarseHill", "imageOf", "(I)LHoarseHill$Hill;"⟩, 13) := ⟨⟨by decide +kernel, by decide +kernel⟩, List.mem_of_getElem? (i := 15) (by decide +kernel), List.mem_of_getElem? (i := 713) (by decide +kernel), List.mem_of_getElem? (i := 714) (by decide +kernel)⟩
theorem lw_p22 : lw_okq (⟨"HoarseHill$Asks", "begin", "(I)V"⟩, 4) := ⟨⟨by decide +kernel, by decide +kernel⟩, List.mem_of_getElem? (i := 206) (by decide +kernel), List.mem_of_getElem? (i := 740) (by decide +kernel), List.mem_of_getElem? (i := 741) (by decide +kernel)⟩
theorem lw_p23 : lw_okq (⟨"HoarseHill$Asks", "isMild", "()Z"⟩, 4) := ⟨⟨by decide +kernel, by decide +kernel⟩, List.mem_of_getElem? (i := 206) (by decide +kernel), List.mem_of_getElem? (i := 744) (by decide +kernel), List.mem_of_getElem? (i := 745) (by decide +kernel)⟩
theorem lw_p24 : lw_okq (⟨"HoarseHill$Asks", "mildSize", "()I"⟩, 4) := ⟨⟨by decide +kernel, by decide +kernel⟩, List.mem_of_getElem? (i := 206) (by decide +kernel), List.mem_of_getElem? (i := 749) (by decide +kernel), List.mem_of_getElem? (i := 750) (by decide +kernel)⟩
theorem lw_p25 : lw_okq (⟨"HoarseHill$Asks", "leave", "(I)V"⟩, 4) := ⟨⟨by decide +kernel, by decide +kernel⟩, List.mem_of_getElem? (i := 206) (by decide +kernel), List.mem_of_getElem? (i := 753) (by decide +kernel), List.mem_of_getElem? (i := 754) (by decide +kernel)⟩
theorem lw_p26 : lw_okq (⟨"HoarseHill$Asks", "sizeOfAnyMild", "()I"⟩, 4) := ⟨⟨by decide +kernel, by decide +kernel⟩, List.mem_of_getElem? (i := 206) (by decide +kernel), List.mem_of_getElem? (i := 757) (by decide +kernel), List.mem_of_getElem? (i := 758) (by decide +kernel)⟩
theorem lw_p27 : lw_okq (⟨"HoarseHill$Asks", "lentSize", "()I"⟩, 4) := ⟨⟨by decide +kernel, by decide +kernel⟩, List.mem_of_getElem? (i := 206) (by decide +kernel), List.mem_of_getElem? (i := 761) (by decide +kernel), List.mem_of_getElem? (i := 762) (by decide +kernel)⟩
theorem lw_p28 : lw_okq (⟨"HoarseHill$Asks", "plainSize", "()I"⟩, 4) := ⟨⟨by decide +kernel, by decide +kernel⟩, List.mem_of_getElem? (i := 206) (by decide +kernel), List.mem_of_getElem? (i := 765) (by decide +kernel), List.mem_of_getElem? (i := 766) (by decide +kernel)⟩
theorem lw_p29 : lw_okq (⟨"HoarseHill$Asks", "sizeOfAnyPlain", "()I"⟩, 4) := ⟨⟨by decide +kernel, by decide +kernel⟩, List.mem_of_getElem? (i := 206) (by decide +kernel), List.mem_of_getElem? (i := 769) (by decide +kernel), List.mem_of_getElem? (i := 770) (by decide +kernel)⟩
theorem lw_p30 : lw_okq (⟨"HoarseHill$Asks", "plainMark", "()I"⟩, 4) := ⟨⟨by decide +kernel, by decide +kernel⟩, List.mem_of_getElem? (i := 206) (by decide +kernel), List.mem_of_getElem? (i := 773) (by decide +kernel), List.mem_of_getElem? (i := 774) (by decide +kernel)⟩
theorem lw_p31 : lw_okq (⟨"HoarseHill$Asks", "markOfAnyPlain", "()I"⟩, 4) := ⟨⟨by decide +kernel, by decide +kernel⟩, List.mem_of_getElem? (i := 206) (by decide +kernel), List.mem_of_getElem? (i := 777) (by decide +kernel), List.mem_of_getElem? (i := 778) (by decide +kernel)⟩
def lw_privs_2 : List (MethodName × Nat) := [(⟨"HoarseHill$Foretelling", "carriedInOrder", "(II)I"⟩, 3), (⟨"HoarseHill$Foretelling", "give", "(I)I"⟩, 3), (⟨"HoarseHill$Matching", "comesAbout", "(III)I"⟩, 3), (⟨"HoarseHill$Foretelling", "catchColds", "(II)I"⟩, 3), (⟨"HoarseHill$Foretelling", "breathOfAll", "()I"⟩, 3), (⟨"HoarseHill", "imageOf", "(I)LHoarseHill$Hill;"⟩, 13), (⟨"HoarseHill$Asks", "begin", "(I)V"⟩, 4), (⟨"HoarseHill$Asks", "isMild", "()Z"⟩, 4), (⟨"HoarseHill$Asks", "mildSize", "()I"⟩, 4), (⟨"HoarseHill$Asks", "leave", "(I)V"⟩, 4), (⟨"HoarseHill$Asks", "sizeOfAnyMild", "()I"⟩, 4), (⟨"HoarseHill$Asks", "lentSize", "()I"⟩, 4), (⟨"HoarseHill$Asks", "plainSize", "()I"⟩, 4), (⟨"HoarseHill$Asks", "sizeOfAnyPlain", "()I"⟩, 4), (⟨"HoarseHill$Asks", "plainMark", "()I"⟩, 4), (⟨"HoarseHill$Asks", "markOfAnyPlain", "()I"⟩, 4)]
theorem lw_r2 : ∀ q ∈ lw_privs_2, lw_okq q := List.forall_mem_cons.mpr ⟨lw_p16, List.forall_mem_cons.mpr ⟨lw_p17, List.forall_mem_cons.mpr ⟨lw_p18, List.forall_mem_cons.mpr ⟨lw_p19, List.forall_mem_cons.mpr ⟨lw_p20, List.forall_mem_cons.mpr ⟨lw_p21, List.forall_mem_cons.mpr ⟨lw_p22, List.forall_mem_cons.mpr ⟨lw_p23, List.forall_mem_cons.mpr ⟨lw_p24, List.forall_mem_cons.mpr ⟨lw_p25, List.forall_mem_cons.mpr ⟨lw_p26, List.forall_mem_cons.mpr ⟨lw_p27, List.forall_mem_cons.mpr ⟨lw_p28, List.forall_mem_cons.mpr ⟨lw_p29, List.forall_mem_cons.mpr ⟨lw_p30, List.forall_mem_cons.mpr ⟨lw_p31, fun _ h => absurd h List.not_mem_nil⟩⟩⟩⟩⟩⟩⟩⟩⟩⟩⟩⟩⟩⟩⟩⟩
theorem lw_p32 : lw_okq (⟨"HoarseHill$Asks", "lentMark", "()I"⟩, 4) := ⟨⟨by decide +kernel, by decide +kernel⟩, List.mem_of_getElem? (i := 206) (by decide +kernel), List.mem_of_getElem? (i := 781) (by decide +kernel), List.mem_of_getElem? (i := 782) (by decide +kernel)⟩
theorem lw_p33 : lw_okq (⟨"HoarseHill$Asks", "mildMark", "()I"⟩, 4) := ⟨⟨by decide +kernel, by decide +kernel⟩, List.mem_of_getElem? (i := 206) (by decide +kernel), List.mem_of_getElem? (i := 789) (by decide +kernel), List.mem_of_getElem? (i := 790) (by decide +kernel)⟩
theorem lw_p34 : lw_okq (⟨"HoarseHillModel", "find", "(I)I"⟩, 19) := ⟨⟨by decide +kernel, by decide +kernel⟩, List.mem_of_getElem? (i := 814) (by decide +kernel), List.mem_of_getElem? (i := 892) (by decide +kernel), List.mem_of_getElem? (i := 893) (by decide +kernel)⟩
theorem lw_p35 : lw_okq (⟨"HoarseHillModel", "well", "(I)I"⟩, 19) := ⟨⟨by decide +kernel, by decide +kernel⟩, List.mem_of_getElem? (i := 814) (by decide +kernel), List.mem_of_getElem? (i := 897) (by decide +kernel), List.mem_of_getElem? (i := 898) (by decide +kernel)⟩
theorem lw_p36 : lw_okq (⟨"HoarseHillModel", "isSpan", "(III)Z"⟩, 19) := ⟨⟨by decide +kernel, by decide +kernel⟩, List.mem_of_getElem? (i := 814) (by decide +kernel), List.mem_of_getElem? (i := 912) (by decide +kernel), List.mem_of_getElem? (i := 913) (by decide +kernel)⟩
theorem lw_p37 : lw_okq (⟨"HoarseHillModel", "reads", "()Z"⟩, 19) := ⟨⟨by decide +kernel, by decide +kernel⟩, List.mem_of_getElem? (i := 814) (by decide +kernel), List.mem_of_getElem? (i := 930) (by decide +kernel), List.mem_of_getElem? (i := 931) (by decide +kernel)⟩
theorem lw_p38 : lw_okq (⟨"HoarseHillModel", "readsLaw", "()Z"⟩, 19) := ⟨⟨by decide +kernel, by decide +kernel⟩, List.mem_of_getElem? (i := 814) (by decide +kernel), List.mem_of_getElem? (i := 934) (by decide +kernel), List.mem_of_getElem? (i := 935) (by decide +kernel)⟩
theorem lw_p39 : lw_okq (⟨"HoarseHillModel", "sign", "(I)Z"⟩, 19) := ⟨⟨by decide +kernel, by decide +kernel⟩, List.mem_of_getElem? (i := 814) (by decide +kernel), List.mem_of_getElem? (i := 938) (by decide +kernel), List.mem_of_getElem? (i := 939) (by decide +kernel)⟩
theorem lw_p40 : lw_okq (⟨"HoarseHillModel", "isLetter", "(I)Z"⟩, 19) := ⟨⟨by decide +kernel, by decide +kernel⟩, List.mem_of_getElem? (i := 814) (by decide +kernel), List.mem_of_getElem? (i := 942) (by decide +kernel), List.mem_of_getElem? (i := 943) (by decide +kernel)⟩
theorem lw_p41 : lw_okq (⟨"HoarseHillModel", "refuse", "(I)Z"⟩, 19) := ⟨⟨by decide +kernel, by decide +kernel⟩, List.mem_of_getElem? (i := 814) (by decide +kernel), List.mem_of_getElem? (i := 946) (by decide +kernel), List.mem_of_getElem? (i := 947) (by decide +kernel)⟩
theorem lw_p42 : lw_okq (⟨"HoarseHillModel", "readsNumber", "(II)Z"⟩, 19) := ⟨⟨by decide +kernel, by decide +kernel⟩, List.mem_of_getElem? (i := 814) (by decide +kernel), List.mem_of_getElem? (i := 950) (by decide +kernel), List.mem_of_getElem? (i := 951) (by decide +kernel)⟩
theorem lw_p43 : lw_okq (⟨"HoarseHillModel", "isFigure", "(I)Z"⟩, 19) := ⟨⟨by decide +kernel, by decide +kernel⟩, List.mem_of_getElem? (i := 814) (by decide +kernel), List.mem_of_getElem? (i := 954) (by decide +kernel), List.mem_of_getElem? (i := 955) (by decide +kernel)⟩
theorem lw_p44 : lw_okq (⟨"HoarseHillModel", "readsMotion", "()Z"⟩, 19) := ⟨⟨by decide +kernel, by decide +kernel⟩, List.mem_of_getElem? (i := 814) (by decide +kernel), List.mem_of_getElem? (i := 960) (by decide +kernel), List.mem_of_getElem? (i := 961) (by decide +kernel)⟩
theorem lw_p45 : lw_okq (⟨"HoarseHillModel", "isSort", "()Z"⟩, 19) := ⟨⟨by decide +kernel, by decide +kernel⟩, List.mem_of_getElem? (i := 814) (by decide +kernel), List.mem_of_getElem? (i := 964) (by decide +kernel), List.mem_of_getElem? (i := 965) (by decide +kernel)⟩
theorem lw_p46 : lw_okq (⟨"HoarseHillModel", "readsMember", "()Z"⟩, 19) := ⟨⟨by decide +kernel, by decide +kernel⟩, List.mem_of_getElem? (i := 814) (by decide +kernel), List.mem_of_getElem? (i := 971) (by decide +kernel), List.mem_of_getElem? (i := 972) (by decide +kernel)⟩
theorem lw_p47 : lw_okq (⟨"HoarseHillModel", "copyTown", "(II)V"⟩, 19) := ⟨⟨by decide +kernel, by decide +kernel⟩, List.mem_of_getElem? (i := 814) (by decide +kernel), List.mem_of_getElem? (i := 976) (by decide +kernel), List.mem_of_getElem? (i := 977) (by decide +kernel)⟩
def lw_privs_3 : List (MethodName × Nat) := [(⟨"HoarseHill$Asks", "lentMark", "()I"⟩, 4), (⟨"HoarseHill$Asks", "mildMark", "()I"⟩, 4), (⟨"HoarseHillModel", "find", "(I)I"⟩, 19), (⟨"HoarseHillModel", "well", "(I)I"⟩, 19), (⟨"HoarseHillModel", "isSpan", "(III)Z"⟩, 19), (⟨"HoarseHillModel", "reads", "()Z"⟩, 19), (⟨"HoarseHillModel", "readsLaw", "()Z"⟩, 19), (⟨"HoarseHillModel", "sign", "(I)Z"⟩, 19), (⟨"HoarseHillModel", "isLetter", "(I)Z"⟩, 19), (⟨"HoarseHillModel", "refuse", "(I)Z"⟩, 19), (⟨"HoarseHillModel", "readsNumber", "(II)Z"⟩, 19), (⟨"HoarseHillModel", "isFigure", "(I)Z"⟩, 19), (⟨"HoarseHillModel", "readsMotion", "()Z"⟩, 19), (⟨"HoarseHillModel", "isSort", "()Z"⟩, 19), (⟨"HoarseHillModel", "readsMember", "()Z"⟩, 19), (⟨"HoarseHillModel", "copyTown", "(II)V"⟩, 19)]
theorem lw_r3 : ∀ q ∈ lw_privs_3, lw_okq q := List.forall_mem_cons.mpr ⟨lw_p32, List.forall_mem_cons.mpr ⟨lw_p33, List.forall_mem_cons.mpr ⟨lw_p34, List.forall_mem_cons.mpr ⟨lw_p35, List.forall_mem_cons.mpr ⟨lw_p36, List.forall_mem_cons.mpr ⟨lw_p37, List.forall_mem_cons.mpr ⟨lw_p38, List.forall_mem_cons.mpr ⟨lw_p39, List.forall_mem_cons.mpr ⟨lw_p40, List.forall_mem_cons.mpr ⟨lw_p41, List.forall_mem_cons.mpr ⟨lw_p42, List.forall_mem_cons.mpr ⟨lw_p43, List.forall_mem_cons.mpr ⟨lw_p44, List.forall_mem_cons.mpr ⟨lw_p45, List.forall_mem_cons.mpr ⟨lw_p46, List.forall_mem_cons.mpr ⟨lw_p47, fun _ h => absurd h List.not_mem_nil⟩⟩⟩⟩⟩⟩⟩⟩⟩⟩⟩⟩⟩⟩⟩⟩
theorem lw_p48 : lw_okq (⟨"HoarseHillModel", "areMembers", "(I)Z"⟩, 19) := ⟨⟨by decide +kernel, by decide +kernel⟩, List.mem_of_getElem? (i := 814) (by decide +kernel), List.mem_of_getElem? (i := 993) (by decide +kernel), List.mem_of_getElem? (i := 994) (by decide +kernel)⟩
theorem lw_p49 : lw_okq (⟨"HoarseHillModel", "canSpeak", "(I)I"⟩, 19) := ⟨⟨by decide +kernel, by decide +kernel⟩, List.mem_of_getElem? (i := 814) (by decide +kernel), List.mem_of_getElem? (i := 997) (by decide +kernel), List.mem_of_getElem? (i := 998) (by decide +kernel)⟩
theorem lw_p50 : lw_okq (⟨"HoarseHillModel", "costOf", "(II)I"⟩, 19) := ⟨⟨by decide +kernel, by decide +kernel⟩, List.mem_of_getElem? (i := 814) (by decide +kernel), List.mem_of_getElem? (i := 1001) (by decide +kernel), List.mem_of_getElem? (i := 1002) (by decide +kernel)⟩
theorem lw_p51 : lw_okq (⟨"HoarseHillModel", "keepPast", "()V"⟩, 19) := ⟨⟨by decide +kernel, by decide +kernel⟩, List.mem_of_getElem? (i := 814) (by decide +kernel), List.mem_of_getElem? (i := 1008) (by decide +kernel), List.mem_of_getElem? (i := 1009) (by decide +kernel)⟩
theorem lw_p52 : lw_okq (⟨"HoarseHillModel", "pass", "(II)I"⟩, 19) := ⟨⟨by decide +kernel, by decide +kernel⟩, List.mem_of_getElem? (i := 814) (by decide +kernel), List.mem_of_getElem? (i := 1012) (by decide +kernel), List.mem_of_getElem? (i := 1013) (by decide +kernel)⟩
theorem lw_p53 : lw_okq (⟨"HoarseHillModel", "motionOf", "(I)I"⟩, 19) := ⟨⟨by decide +kernel, by decide +kernel⟩, List.mem_of_getElem? (i := 814) (by decide +kernel), List.mem_of_getElem? (i := 1016) (by decide +kernel), List.mem_of_getElem? (i := 1017) (by decide +kernel)⟩
theorem lw_p54 : lw_okq (⟨"HoarseHillModel", "passFor", "(III)I"⟩, 19) := ⟨⟨by decide +kernel, by decide +kernel⟩, List.mem_of_getElem? (i := 814) (by decide +kernel), List.mem_of_getElem? (i := 1020) (by decide +kernel), List.mem_of_getElem? (i := 1021) (by decide +kernel)⟩
theorem lw_p55 : lw_okq (⟨"HoarseHillModel", "weightOf", "(II)I"⟩, 19) := ⟨⟨by decide +kernel, by decide +kernel⟩, List.mem_of_getElem? (i := 814) (by decide +kernel), List.mem_of_getElem? (i := 1024) (by decide +kernel), List.mem_of_getElem? (i := 1025) (by decide +kernel)⟩
theorem lw_p56 : lw_okq (⟨"HoarseHillModel", "weighs", "(II)I"⟩, 19) := ⟨⟨by decide +kernel, by decide +kernel⟩, List.mem_of_getElem? (i := 814) (by decide +kernel), List.mem_of_getElem? (i := 1031) (by decide +kernel), List.mem_of_getElem? (i := 1032) (by decide +kernel)⟩
theorem lw_p57 : lw_okq (⟨"HoarseHillModel", "isMember", "(I)Z"⟩, 19) := ⟨⟨by decide +kernel, by decide +kernel⟩, List.mem_of_getElem? (i := 814) (by decide +kernel), List.mem_of_getElem? (i := 1045) (by decide +kernel), List.mem_of_getElem? (i := 1046) (by decide +kernel)⟩
theorem lw_p58 : lw_okq (⟨"HoarseHillModel", "isMotion", "(I)Z"⟩, 19) := ⟨⟨by decide +kernel, by decide +kernel⟩, List.mem_of_getElem? (i := 814) (by decide +kernel), List.mem_of_getElem? (i := 1058) (by decide +kernel), List.mem_of_getElem? (i := 1059) (by decide +kernel)⟩
theorem lw_p59 : lw_okq (⟨"HoarseHillModel", "isCarried", "(II)Z"⟩, 19) := ⟨⟨by decide +kernel, by decide +kernel⟩, List.mem_of_getElem? (i := 814) (by decide +kernel), List.mem_of_getElem? (i := 1090) (by decide +kernel), List.mem_of_getElem? (i := 1091) (by decide +kernel)⟩
theorem lw_p60 : lw_okq (⟨"HoarseHillModel", "mostCarried", "(I)I"⟩, 19) := ⟨⟨by decide +kernel, by decide +kernel⟩, List.mem_of_getElem? (i := 814) (by decide +kernel), List.mem_of_getElem? (i := 1101) (by decide +kernel), List.mem_of_getElem? (i := 1102) (by decide +kernel)⟩
theorem lw_p61 : lw_okq (⟨"HoarseHillModel", "layTried", "()V"⟩, 19) := ⟨⟨by decide +kernel, by decide +kernel⟩, List.mem_of_getElem? (i := 814) (by decide +kernel), List.mem_of_getElem? (i := 1105) (by decide +kernel), List.mem_of_getElem? (i := 1106) (by decide +kernel)⟩
theorem lw_p62 : lw_okq (⟨"HoarseHillModel", "nextSet", "(II)I"⟩, 19) := ⟨⟨by decide +kernel, by decide +kernel⟩, List.mem_of_getElem? (i := 814) (by decide +kernel), List.mem_of_getElem? (i := 1109) (by decide +kernel), List.mem_of_getElem? (i := 1110) (by decide +kernel)⟩
theorem lw_p63 : lw_okq (⟨"HoarseHillModel", "carriedBy", "(I)I"⟩, 19) := ⟨⟨by decide +kernel, by decide +kernel⟩, List.mem_of_getElem? (i := 814) (by decide +kernel), List.mem_of_getElem? (i := 1117) (by decide +kernel), List.mem_of_getElem? (i := 1118) (by decide +kernel)⟩
def lw_privs_4 : List (MethodName × Nat) := [(⟨"HoarseHillModel", "areMembers", "(I)Z"⟩, 19), (⟨"HoarseHillModel", "canSpeak", "(I)I"⟩, 19), (⟨"HoarseHillModel", "costOf", "(II)I"⟩, 19), (⟨"HoarseHillModel", "keepPast", "()V"⟩, 19), (⟨"HoarseHillModel", "pass", "(II)I"⟩, 19), (⟨"HoarseHillModel", "motionOf", "(I)I"⟩, 19), (⟨"HoarseHillModel", "passFor", "(III)I"⟩, 19), (⟨"HoarseHillModel", "weightOf", "(II)I"⟩, 19), (⟨"HoarseHillModel", "weighs", "(II)I"⟩, 19), (⟨"HoarseHillModel", "isMember", "(I)Z"⟩, 19), (⟨"HoarseHillModel", "isMotion", "(I)Z"⟩, 19), (⟨"HoarseHillModel", "isCarried", "(II)Z"⟩, 19), (⟨"HoarseHillModel", "mostCarried", "(I)I"⟩, 19), (⟨"HoarseHillModel", "layTried", "()V"⟩, 19), (⟨"HoarseHillModel", "nextSet", "(II)I"⟩, 19), (⟨"HoarseHillModel", "carriedBy", "(I)I"⟩, 19)]
theorem lw_r4 : ∀ q ∈ lw_privs_4, lw_okq q := List.forall_mem_cons.mpr ⟨lw_p48, List.forall_mem_cons.mpr ⟨lw_p49, List.forall_mem_cons.mpr ⟨lw_p50, List.forall_mem_cons.mpr ⟨lw_p51, List.forall_mem_cons.mpr ⟨lw_p52, List.forall_mem_cons.mpr ⟨lw_p53, List.forall_mem_cons.mpr ⟨lw_p54, List.forall_mem_cons.mpr ⟨lw_p55, List.forall_mem_cons.mpr ⟨lw_p56, List.forall_mem_cons.mpr ⟨lw_p57, List.forall_mem_cons.mpr ⟨lw_p58, List.forall_mem_cons.mpr ⟨lw_p59, List.forall_mem_cons.mpr ⟨lw_p60, List.forall_mem_cons.mpr ⟨lw_p61, List.forall_mem_cons.mpr ⟨lw_p62, List.forall_mem_cons.mpr ⟨lw_p63, fun _ h => absurd h List.not_mem_nil⟩⟩⟩⟩⟩⟩⟩⟩⟩⟩⟩⟩⟩⟩⟩⟩
theorem lw_p64 : lw_okq (⟨"HoarseHillModel", "lozengesIn", "(I)I"⟩, 19) := ⟨⟨by decide +kernel, by decide +kernel⟩, List.mem_of_getElem? (i := 814) (by decide +kernel), List.mem_of_getElem? (i := 1125) (by decide +kernel), List.mem_of_getElem? (i := 1126) (by decide +kernel)⟩
theorem lw_p65 : lw_okq (⟨"HoarseHillModel", "gets", "(II)I"⟩, 19) := ⟨⟨by decide +kernel, by decide +kernel⟩, List.mem_of_getElem? (i := 814) (by decide +kernel), List.mem_of_getElem? (i := 1129) (by decide +kernel), List.mem_of_getElem? (i := 1130) (by decide +kernel)⟩
theorem lw_p66 : lw_okq (⟨"HoarseHillModel", "turns", "(I)Z"⟩, 19) := ⟨⟨by decide +kernel, by decide +kernel⟩, List.mem_of_getElem? (i := 814) (by decide +kernel), List.mem_of_getElem? (i := 1133) (by decide +kernel), List.mem_of_getElem? (i := 1134) (by decide +kernel)⟩
theorem lw_p67 : lw_okq (⟨"HoarseHillModel", "passAll", "(I)I"⟩, 19) := ⟨⟨by decide +kernel, by decide +kernel⟩, List.mem_of_getElem? (i := 814) (by decide +kernel), List.mem_of_getElem? (i := 1142) (by decide +kernel), List.mem_of_getElem? (i := 1143) (by decide +kernel)⟩
theorem lw_p68 : lw_okq (⟨"HoarseHillModel", "noItems", "(III)I"⟩, 19) := ⟨⟨by decide +kernel, by decide +kernel⟩, List.mem_of_getElem? (i := 814) (by decide +kernel), List.mem_of_getElem? (i := 1155) (by decide +kernel), List.mem_of_getElem? (i := 1156) (by decide +kernel)⟩
theorem lw_p69 : lw_okq (⟨"HoarseHillModel", "isSo", "(IIIII)Z"⟩, 19) := ⟨⟨by decide +kernel, by decide +kernel⟩, List.mem_of_getElem? (i := 814) (by decide +kernel), List.mem_of_getElem? (i := 1159) (by decide +kernel), List.mem_of_getElem? (i := 1160) (by decide +kernel)⟩
theorem lw_p70 : lw_okq (⟨"HoarseHillModel", "isOf", "(II)Z"⟩, 19) := ⟨⟨by decide +kernel, by decide +kernel⟩, List.mem_of_getElem? (i := 814) (by decide +kernel), List.mem_of_getElem? (i := 1198) (by decide +kernel), List.mem_of_getElem? (i := 1199) (by decide +kernel)⟩
theorem lw_p71 : lw_okq (⟨"HoarseHillModel", "sizeOf", "(I)I"⟩, 19) := ⟨⟨by decide +kernel, by decide +kernel⟩, List.mem_of_getElem? (i := 814) (by decide +kernel), List.mem_of_getElem? (i := 1206) (by decide +kernel), List.mem_of_getElem? (i := 1207) (by decide +kernel)⟩
theorem lw_p72 : lw_okq (⟨"HoarseHillModel", "begin", "(I)V"⟩, 19) := ⟨⟨by decide +kernel, by decide +kernel⟩, List.mem_of_getElem? (i := 814) (by decide +kernel), List.mem_of_getElem? (i := 1210) (by decide +kernel), List.mem_of_getElem? (i := 1211) (by decide +kernel)⟩
theorem lw_p73 : lw_okq (⟨"HoarseHillModel", "plainSize", "(I)I"⟩, 19) := ⟨⟨by decide +kernel, by decide +kernel⟩, List.mem_of_getElem? (i := 814) (by decide +kernel), List.mem_of_getElem? (i := 1214) (by decide +kernel), List.mem_of_getElem? (i := 1215) (by decide +kernel)⟩
theorem lw_p74 : lw_okq (⟨"HoarseHillModel", "lentSize", "(I)I"⟩, 19) := ⟨⟨by decide +kernel, by decide +kernel⟩, List.mem_of_getElem? (i := 814) (by decide +kernel), List.mem_of_getElem? (i := 1218) (by decide +kernel), List.mem_of_getElem? (i := 1219) (by decide +kernel)⟩
theorem lw_p75 : lw_okq (⟨"HoarseHillModel", "mark", "(I)I"⟩, 19) := ⟨⟨by decide +kernel, by decide +kernel⟩, List.mem_of_getElem? (i := 814) (by decide +kernel), List.mem_of_getElem? (i := 1222) (by decide +kernel), List.mem_of_getElem? (i := 1223) (by decide +kernel)⟩
theorem lw_p76 : lw_okq (⟨"HoarseHillModel", "plainMark", "(I)I"⟩, 19) := ⟨⟨by decide +kernel, by decide +kernel⟩, List.mem_of_getElem? (i := 814) (by decide +kernel), List.mem_of_getElem? (i := 1226) (by decide +kernel), List.mem_of_getElem? (i := 1227) (by decide +kernel)⟩
theorem lw_p77 : lw_okq (⟨"HoarseHillModel", "lentMark", "(I)I"⟩, 19) := ⟨⟨by decide +kernel, by decide +kernel⟩, List.mem_of_getElem? (i := 814) (by decide +kernel), List.mem_of_getElem? (i := 1230) (by decide +kernel), List.mem_of_getElem? (i := 1231) (by decide +kernel)⟩
theorem lw_p78 : lw_okq (⟨"HoarseHillModel", "mildSize", "(I)I"⟩, 19) := ⟨⟨by decide +kernel, by decide +kernel⟩, List.mem_of_getElem? (i := 814) (by decide +kernel), List.mem_of_getElem? (i := 1234) (by decide +kernel), List.mem_of_getElem? (i := 1235) (by decide +kernel)⟩
theorem lw_p79 : lw_okq (⟨"HoarseHillModel", "mildMark", "(I)I"⟩, 19) := ⟨⟨by decide +kernel, by decide +kernel⟩, List.mem_of_getElem? (i := 814) (by decide +kernel), List.mem_of_getElem? (i := 1238) (by decide +kernel), List.mem_of_getElem? (i := 1239) (by decide +kernel)⟩
def lw_privs_5 : List (MethodName × Nat) := [(⟨"HoarseHillModel", "lozengesIn", "(I)I"⟩, 19), (⟨"HoarseHillModel", "gets", "(II)I"⟩, 19), (⟨"HoarseHillModel", "turns", "(I)Z"⟩, 19), (⟨"HoarseHillModel", "passAll", "(I)I"⟩, 19), (⟨"HoarseHillModel", "noItems", "(III)I"⟩, 19), (⟨"HoarseHillModel", "isSo", "(IIIII)Z"⟩, 19), (⟨"HoarseHillModel", "isOf", "(II)Z"⟩, 19), (⟨"HoarseHillModel", "sizeOf", "(I)I"⟩, 19), (⟨"HoarseHillModel", "begin", "(I)V"⟩, 19), (⟨"HoarseHillModel", "plainSize", "(I)I"⟩, 19), (⟨"HoarseHillModel", "lentSize", "(I)I"⟩, 19), (⟨"HoarseHillModel", "mark", "(I)I"⟩, 19), (⟨"HoarseHillModel", "plainMark", "(I)I"⟩, 19), (⟨"HoarseHillModel", "lentMark", "(I)I"⟩, 19), (⟨"HoarseHillModel", "mildSize", "(I)I"⟩, 19), (⟨"HoarseHillModel", "mildMark", "(I)I"⟩, 19)]
theorem lw_r5 : ∀ q ∈ lw_privs_5, lw_okq q := List.forall_mem_cons.mpr ⟨lw_p64, List.forall_mem_cons.mpr ⟨lw_p65, List.forall_mem_cons.mpr ⟨lw_p66, List.forall_mem_cons.mpr ⟨lw_p67, List.forall_mem_cons.mpr ⟨lw_p68, List.forall_mem_cons.mpr ⟨lw_p69, List.forall_mem_cons.mpr ⟨lw_p70, List.forall_mem_cons.mpr ⟨lw_p71, List.forall_mem_cons.mpr ⟨lw_p72, List.forall_mem_cons.mpr ⟨lw_p73, List.forall_mem_cons.mpr ⟨lw_p74, List.forall_mem_cons.mpr ⟨lw_p75, List.forall_mem_cons.mpr ⟨lw_p76, List.forall_mem_cons.mpr ⟨lw_p77, List.forall_mem_cons.mpr ⟨lw_p78, List.forall_mem_cons.mpr ⟨lw_p79, fun _ h => absurd h List.not_mem_nil⟩⟩⟩⟩⟩⟩⟩⟩⟩⟩⟩⟩⟩⟩⟩⟩
def lw_privs : List (MethodName × Nat) := lw_privs_1 ++ (lw_privs_2 ++ (lw_privs_3 ++ (lw_privs_4 ++ (lw_privs_5))))
def lw_tbl : List Cond := k2_sels lw_privs ++ tables_1
theorem lw_privs_ok : ∀ q ∈ lw_privs, lw_okq q := by
  show ∀ q ∈ lw_privs_1 ++ (lw_privs_2 ++ (lw_privs_3 ++ (lw_privs_4 ++ (lw_privs_5)))), lw_okq q
  exact List.forall_mem_append.mpr ⟨lw_r1, List.forall_mem_append.mpr ⟨lw_r2, List.forall_mem_append.mpr ⟨lw_r3, List.forall_mem_append.mpr ⟨lw_r4, lw_r5⟩⟩⟩⟩
-- ===== end of PART A; then your names; then what follows =====
/-! ===== BEGIN printed: names, fields, word lists, decode rows ===== -/
def RX0 : String := "HoarseHill$Acts"
def TX0 : u_T := fun k => match k with
  | 0 => ("HoarseHill$Acts", "before", "[I", true)
  | 1 => ("HoarseHill$Acts", "kept", "I", false)
  | _ => ("HoarseHill$Acts", "next", "I", false)
def tyX0 : Nat → FieldType := fun k => match k with
  | 0 => .array .int
  | 1 => .int
  | _ => .int
abbrev wsX00 : List Cond := u_ws RX0 TX0 3
theorem nmX0 : ∀ a, a < 3 → ∀ b, b < 3 → a ≠ b → (TX0 a).2.1 ≠ (TX0 b).2.1 := by decide +kernel
theorem tyX0_ok : ∀ k, k < 3 → parseFieldDescriptor (TX0 k).2.2.1 = some (tyX0 k) := by decide +kernel
abbrev cX0_init : ByteArray := prog_2_method_1_code
def yX0_init : MethodName := ⟨RX0, "<init>", "()V"⟩
abbrev cX0_forget : ByteArray := prog_2_method_2_code
def yX0_forget : MethodName := ⟨RX0, "forget", "()V"⟩
abbrev cX0_keep : ByteArray := prog_2_method_3_code
def yX0_keep : MethodName := ⟨RX0, "keep", "(LHoarseHill$Hill;)V"⟩
abbrev cX0_giveBack : ByteArray := prog_2_method_4_code
def yX0_giveBack : MethodName := ⟨RX0, "giveBack", "(LHoarseHill$Hill;)V"⟩
def RX1 : String := "HoarseHill$Asks"
def TX1 : u_T := fun k => match k with
  | 0 => ("HoarseHill$Asks", "now", "LHoarseHill$Hill;", true)
  | 1 => ("HoarseHill$Asks", "left", "[I", true)
  | 2 => ("HoarseHill$Asks", "leftCount", "I", false)
  | _ => ("HoarseHill$Asks", "asked", "I", false)
def tyX1 : Nat → FieldType := fun k => match k with
  | 0 => .object "HoarseHill$Hill"
  | 1 => .array .int
  | 2 => .int
  | _ => .int
abbrev wsX10 : List Cond := u_ws RX1 TX1 4
theorem nmX1 : ∀ a, a < 4 → ∀ b, b < 4 → a ≠ b → (TX1 a).2.1 ≠ (TX1 b).2.1 := by decide +kernel
theorem tyX1_ok : ∀ k, k < 4 → parseFieldDescriptor (TX1 k).2.2.1 = some (tyX1 k) := by decide +kernel
abbrev cX1_init : ByteArray := prog_3_method_1_code
def yX1_init : MethodName := ⟨RX1, "<init>", "(LHoarseHill$Hill;)V"⟩
abbrev cX1_sizeOf : ByteArray := prog_3_method_2_code
def yX1_sizeOf : MethodName := ⟨RX1, "sizeOf", "(I)I"⟩
abbrev cX1_markOf : ByteArray := prog_3_method_3_code
def yX1_markOf : MethodName := ⟨RX1, "markOf", "(I)I"⟩
abbrev cX1_traceAt : ByteArray := prog_3_method_4_code
def yX1_traceAt : MethodName := ⟨RX1, "traceAt", "(I)I"⟩
abbrev cX1_begin : ByteArray := prog_3_method_5_code
def yX1_begin : MethodName := ⟨RX1, "begin", "(I)V"⟩
abbrev cX1_leave : ByteArray := prog_3_method_6_code
def yX1_leave : MethodName := ⟨RX1, "leave", "(I)V"⟩
abbrev cX1_isMild : ByteArray := prog_3_method_7_code
def yX1_isMild : MethodName := ⟨RX1, "isMild", "()Z"⟩
abbrev cX1_lentSize : ByteArray := prog_3_method_8_code
def yX1_lentSize : MethodName := ⟨RX1, "lentSize", "()I"⟩
abbrev cX1_lentMark : ByteArray := prog_3_method_9_code
def yX1_lentMark : MethodName := ⟨RX1, "lentMark", "()I"⟩
abbrev cX1_plainSize : ByteArray := prog_3_method_10_code
def yX1_plainSize : MethodName := ⟨RX1, "plainSize", "()I"⟩
abbrev cX1_sizeOfAnyPlain : ByteArray := prog_3_method_11_code
def yX1_sizeOfAnyPlain : MethodName := ⟨RX1, "sizeOfAnyPlain", "()I"⟩
abbrev cX1_plainMark : ByteArray := prog_3_method_12_code
def yX1_plainMark : MethodName := ⟨RX1, "plainMark", "()I"⟩
abbrev cX1_markOfAnyPlain : ByteArray := prog_3_method_13_code
def yX1_markOfAnyPlain : MethodName := ⟨RX1, "markOfAnyPlain", "()I"⟩
abbrev cX1_mildSize : ByteArray := prog_3_method_14_code
def yX1_mildSize : MethodName := ⟨RX1, "mildSize", "()I"⟩
abbrev cX1_sizeOfAnyMild : ByteArray := prog_3_method_15_code
def yX1_sizeOfAnyMild : MethodName := ⟨RX1, "sizeOfAnyMild", "()I"⟩
abbrev cX1_mildMark : ByteArray := prog_3_method_16_code
def yX1_mildMark : MethodName := ⟨RX1, "mildMark", "()I"⟩
def RX2 : String := "HoarseHill$Foretelling"
def TX2 : u_T := fun k => match k with
  | 0 => ("HoarseHill$Foretelling", "now", "LHoarseHill$Hill;", true)
  | 1 => ("HoarseHill$Foretelling", "told", "LHoarseHill$Hill;", true)
  | _ => ("HoarseHill$Foretelling", "saidOn", "[I", true)
def tyX2 : Nat → FieldType := fun k => match k with
  | 0 => .object "HoarseHill$Hill"
  | 1 => .object "HoarseHill$Hill"
  | _ => .array .int
abbrev wsX20 : List Cond := u_ws RX2 TX2 3
theorem nmX2 : ∀ a, a < 3 → ∀ b, b < 3 → a ≠ b → (TX2 a).2.1 ≠ (TX2 b).2.1 := by decide +kernel
theorem tyX2_ok : ∀ k, k < 3 → parseFieldDescriptor (TX2 k).2.2.1 = some (tyX2 k) := by decide +kernel
abbrev cX2_init : ByteArray := prog_4_method_1_code
def yX2_init : MethodName := ⟨RX2, "<init>", "(LHoarseHill$Hill;LHoarseHill$Hill;)V"⟩
abbrev cX2_powerOf : ByteArray := prog_4_method_2_code
def yX2_powerOf : MethodName := ⟨RX2, "powerOf", "(II)I"⟩
abbrev cX2_ordersOf : ByteArray := prog_4_method_3_code
def yX2_ordersOf : MethodName := ⟨RX2, "ordersOf", "(I)I"⟩
abbrev cX2_fewestSpeakers : ByteArray := prog_4_method_4_code
def yX2_fewestSpeakers : MethodName := ⟨RX2, "fewestSpeakers", "(I)I"⟩
abbrev cX2_bestAgenda : ByteArray := prog_4_method_5_code
def yX2_bestAgenda : MethodName := ⟨RX2, "bestAgenda", "(I)I"⟩
abbrev cX2_digit : ByteArray := prog_4_method_6_code
def yX2_digit : MethodName := ⟨RX2, "digit", "(III)I"⟩
abbrev cX2_isOrder : ByteArray := prog_4_method_7_code
def yX2_isOrder : MethodName := ⟨RX2, "isOrder", "(II)Z"⟩
abbrev cX2_carriedInOrder : ByteArray := prog_4_method_8_code
def yX2_carriedInOrder : MethodName := ⟨RX2, "carriedInOrder", "(II)I"⟩
abbrev cX2_fewestLozenges : ByteArray := prog_4_method_9_code
def yX2_fewestLozenges : MethodName := ⟨RX2, "fewestLozenges", "(I)I"⟩
abbrev cX2_give : ByteArray := prog_4_method_10_code
def yX2_give : MethodName := ⟨RX2, "give", "(I)I"⟩
abbrev cX2_breathLater : ByteArray := prog_4_method_11_code
def yX2_breathLater : MethodName := ⟨RX2, "breathLater", "(II)I"⟩
abbrev cX2_carriedLater : ByteArray := prog_4_method_12_code
def yX2_carriedLater : MethodName := ⟨RX2, "carriedLater", "(I)I"⟩
abbrev cX2_carriedInColds : ByteArray := prog_4_method_13_code
def yX2_carriedInColds : MethodName := ⟨RX2, "carriedInColds", "(II)I"⟩
abbrev cX2_catchColds : ByteArray := prog_4_method_14_code
def yX2_catchColds : MethodName := ⟨RX2, "catchColds", "(II)I"⟩
abbrev cX2_sessions : ByteArray := prog_4_method_15_code
def yX2_sessions : MethodName := ⟨RX2, "sessions", "(III)I"⟩
abbrev cX2_breathOfAll : ByteArray := prog_4_method_16_code
def yX2_breathOfAll : MethodName := ⟨RX2, "breathOfAll", "()I"⟩
def RX3 : String := "HoarseHill$Hill"
def TX3 : u_T := fun k => match k with
  | 0 => ("HoarseHill$Hill", "stands", "Z", false)
  | 1 => ("HoarseHill$Hill", "cost", "I", false)
  | 2 => ("HoarseHill$Hill", "motions", "I", false)
  | 3 => ("HoarseHill$Hill", "members", "I", false)
  | 4 => ("HoarseHill$Hill", "day", "I", false)
  | 5 => ("HoarseHill$Hill", "carriedInAll", "I", false)
  | 6 => ("HoarseHill$Hill", "needs", "[I", true)
  | 7 => ("HoarseHill$Hill", "kinds", "[I", true)
  | 8 => ("HoarseHill$Hill", "breaths", "[I", true)
  | _ => ("HoarseHill$Hill", "mends", "[I", true)
def tyX3 : Nat → FieldType := fun k => match k with
  | 0 => .boolean
  | 1 => .int
  | 2 => .int
  | 3 => .int
  | 4 => .int
  | 5 => .int
  | 6 => .array .int
  | 7 => .array .int
  | 8 => .array .int
  | _ => .array .int
abbrev wsX30 : List Cond := u_ws RX3 TX3 10
theorem nmX3 : ∀ a, a < 10 → ∀ b, b < 10 → a ≠ b → (TX3 a).2.1 ≠ (TX3 b).2.1 := by decide +kernel
theorem tyX3_ok : ∀ k, k < 10 → parseFieldDescriptor (TX3 k).2.2.1 = some (tyX3 k) := by decide +kernel
abbrev cX3_init : ByteArray := prog_5_method_1_code
def yX3_init : MethodName := ⟨RX3, "<init>", "()V"⟩
abbrev cX3_clear : ByteArray := prog_5_method_2_code
def yX3_clear : MethodName := ⟨RX3, "clear", "()V"⟩
abbrev cX3_become : ByteArray := prog_5_method_3_code
def yX3_become : MethodName := ⟨RX3, "become", "(LHoarseHill$Hill;)V"⟩
abbrev cX3_hasMember : ByteArray := prog_5_method_4_code
def yX3_hasMember : MethodName := ⟨RX3, "hasMember", "(I)Z"⟩
abbrev cX3_hasMotion : ByteArray := prog_5_method_5_code
def yX3_hasMotion : MethodName := ⟨RX3, "hasMotion", "(I)Z"⟩
abbrev cX3_isSet : ByteArray := prog_5_method_6_code
def yX3_isSet : MethodName := ⟨RX3, "isSet", "(I)Z"⟩
abbrev cX3_addMotion : ByteArray := prog_5_method_7_code
def yX3_addMotion : MethodName := ⟨RX3, "addMotion", "(I)V"⟩
abbrev cX3_addMember : ByteArray := prog_5_method_8_code
def yX3_addMember : MethodName := ⟨RX3, "addMember", "(III)V"⟩
abbrev cX3_costOf : ByteArray := prog_5_method_9_code
def yX3_costOf : MethodName := ⟨RX3, "costOf", "(I)I"⟩
abbrev cX3_ableSet : ByteArray := prog_5_method_10_code
def yX3_ableSet : MethodName := ⟨RX3, "ableSet", "()I"⟩
abbrev cX3_weighs : ByteArray := prog_5_method_11_code
def yX3_weighs : MethodName := ⟨RX3, "weighs", "(II)I"⟩
abbrev cX3_weighsSet : ByteArray := prog_5_method_12_code
def yX3_weighsSet : MethodName := ⟨RX3, "weighsSet", "(II)I"⟩
abbrev cX3_needToday : ByteArray := prog_5_method_13_code
def yX3_needToday : MethodName := ⟨RX3, "needToday", "()I"⟩
abbrev cX3_isCarriedBy : ByteArray := prog_5_method_14_code
def yX3_isCarriedBy : MethodName := ⟨RX3, "isCarriedBy", "(II)Z"⟩
abbrev cX3_isCarriedByAll : ByteArray := prog_5_method_15_code
def yX3_isCarriedByAll : MethodName := ⟨RX3, "isCarriedByAll", "()Z"⟩
abbrev cX3_passDay : ByteArray := prog_5_method_16_code
def yX3_passDay : MethodName := ⟨RX3, "passDay", "(II)I"⟩
abbrev cX3_passDays : ByteArray := prog_5_method_17_code
def yX3_passDays : MethodName := ⟨RX3, "passDays", "(I)I"⟩
def RX4 : String := "HoarseHill$Matching"
def TX4 : u_T := fun k => match k with
  | 0 => ("HoarseHill$Matching", "now", "LHoarseHill$Hill;", true)
  | 1 => ("HoarseHill$Matching", "told", "LHoarseHill$Hill;", true)
  | _ => ("HoarseHill$Matching", "rows", "LHoarseHill$Rows;", true)
def tyX4 : Nat → FieldType := fun k => match k with
  | 0 => .object "HoarseHill$Hill"
  | 1 => .object "HoarseHill$Hill"
  | _ => .object "HoarseHill$Rows"
abbrev wsX40 : List Cond := u_ws RX4 TX4 3
theorem nmX4 : ∀ a, a < 3 → ∀ b, b < 3 → a ≠ b → (TX4 a).2.1 ≠ (TX4 b).2.1 := by decide +kernel
theorem tyX4_ok : ∀ k, k < 3 → parseFieldDescriptor (TX4 k).2.2.1 = some (tyX4 k) := by decide +kernel
abbrev cX4_init : ByteArray := prog_6_method_1_code
def yX4_init : MethodName := ⟨RX4, "<init>", "(LHoarseHill$Hill;LHoarseHill$Hill;LHoarseHill$Rows;)V"⟩
abbrev cX4_breathsOf : ByteArray := prog_6_method_2_code
def yX4_breathsOf : MethodName := ⟨RX4, "breathsOf", "(IIII)I"⟩
abbrev cX4_sortsOf : ByteArray := prog_6_method_3_code
def yX4_sortsOf : MethodName := ⟨RX4, "sortsOf", "(IIII)I"⟩
abbrev cX4_costsOf : ByteArray := prog_6_method_4_code
def yX4_costsOf : MethodName := ⟨RX4, "costsOf", "(III)I"⟩
abbrev cX4_comesAbout : ByteArray := prog_6_method_5_code
def yX4_comesAbout : MethodName := ⟨RX4, "comesAbout", "(III)I"⟩
def RX5 : String := "HoarseHill$Planning"
def TX5 : u_T := fun k => match k with
  | 0 => ("HoarseHill$Planning", "now", "LHoarseHill$Hill;", true)
  | 1 => ("HoarseHill$Planning", "told", "LHoarseHill$Hill;", true)
  | 2 => ("HoarseHill$Planning", "breathsAhead", "[I", true)
  | 3 => ("HoarseHill$Planning", "path", "[I", true)
  | 4 => ("HoarseHill$Planning", "best", "[I", true)
  | 5 => ("HoarseHill$Planning", "days", "I", false)
  | _ => ("HoarseHill$Planning", "most", "I", false)
def tyX5 : Nat → FieldType := fun k => match k with
  | 0 => .object "HoarseHill$Hill"
  | 1 => .object "HoarseHill$Hill"
  | 2 => .array .int
  | 3 => .array .int
  | 4 => .array .int
  | 5 => .int
  | _ => .int
abbrev wsX50 : List Cond := u_ws RX5 TX5 7
theorem nmX5 : ∀ a, a < 7 → ∀ b, b < 7 → a ≠ b → (TX5 a).2.1 ≠ (TX5 b).2.1 := by decide +kernel
theorem tyX5_ok : ∀ k, k < 7 → parseFieldDescriptor (TX5 k).2.2.1 = some (tyX5 k) := by decide +kernel
abbrev cX5_init : ByteArray := prog_7_method_1_code
def yX5_init : MethodName := ⟨RX5, "<init>", "(LHoarseHill$Hill;LHoarseHill$Hill;)V"⟩
abbrev cX5_bestDays : ByteArray := prog_7_method_2_code
def yX5_bestDays : MethodName := ⟨RX5, "bestDays", "(II)I"⟩
abbrev cX5_tryDay : ByteArray := prog_7_method_3_code
def yX5_tryDay : MethodName := ⟨RX5, "tryDay", "(II)V"⟩
abbrev cX5_closePlan : ByteArray := prog_7_method_4_code
def yX5_closePlan : MethodName := ⟨RX5, "closePlan", "(II)V"⟩
abbrev cX5_takePath : ByteArray := prog_7_method_5_code
def yX5_takePath : MethodName := ⟨RX5, "takePath", "(II)V"⟩
abbrev cX5_keepBreaths : ByteArray := prog_7_method_6_code
def yX5_keepBreaths : MethodName := ⟨RX5, "keepBreaths", "(I)V"⟩
abbrev cX5_giveBreathsBack : ByteArray := prog_7_method_7_code
def yX5_giveBreathsBack : MethodName := ⟨RX5, "giveBreathsBack", "(I)V"⟩
def RX6 : String := "HoarseHill$Rows"
def TX6 : u_T := fun k => match k with
  | 0 => ("HoarseHill$Rows", "lanes", "[I", true)
  | 1 => ("HoarseHill$Rows", "lengths", "[I", true)
  | _ => ("HoarseHill$Rows", "items", "[I", true)
def tyX6 : Nat → FieldType := fun k => match k with
  | 0 => .array .int
  | 1 => .array .int
  | _ => .array .int
abbrev wsX60 : List Cond := u_ws RX6 TX6 3
theorem nmX6 : ∀ a, a < 3 → ∀ b, b < 3 → a ≠ b → (TX6 a).2.1 ≠ (TX6 b).2.1 := by decide +kernel
theorem tyX6_ok : ∀ k, k < 3 → parseFieldDescriptor (TX6 k).2.2.1 = some (tyX6 k) := by decide +kernel
abbrev cX6_init : ByteArray := prog_8_method_1_code
def yX6_init : MethodName := ⟨RX6, "<init>", "()V"⟩
abbrev cX6_isRow : ByteArray := prog_8_method_2_code
def yX6_isRow : MethodName := ⟨RX6, "isRow", "(I)Z"⟩
abbrev cX6_isMissing : ByteArray := prog_8_method_3_code
def yX6_isMissing : MethodName := ⟨RX6, "isMissing", "(I)Z"⟩
abbrev cX6_sameLane : ByteArray := prog_8_method_4_code
def yX6_sameLane : MethodName := ⟨RX6, "sameLane", "(II)Z"⟩
abbrev cX6_hasPlaces : ByteArray := prog_8_method_5_code
def yX6_hasPlaces : MethodName := ⟨RX6, "hasPlaces", "(III)Z"⟩
abbrev cX6_present : ByteArray := prog_8_method_6_code
def yX6_present : MethodName := ⟨RX6, "present", "()I"⟩
abbrev cX6_make : ByteArray := prog_8_method_7_code
def yX6_make : MethodName := ⟨RX6, "make", "(III)V"⟩
abbrev cX6_item : ByteArray := prog_8_method_8_code
def yX6_item : MethodName := ⟨RX6, "item", "(II)I"⟩
abbrev cX6_put : ByteArray := prog_8_method_9_code
def yX6_put : MethodName := ⟨RX6, "put", "(III)I"⟩
abbrev cX6_move : ByteArray := prog_8_method_10_code
def yX6_move : MethodName := ⟨RX6, "move", "(IIIII)V"⟩
abbrev cX6_lose : ByteArray := prog_8_method_11_code
def yX6_lose : MethodName := ⟨RX6, "lose", "(I)I"⟩
def RX7 : String := "HoarseHill$Tape"
def TX7 : u_T := fun k => match k with
  | 0 => ("HoarseHill$Tape", "letters", "[I", true)
  | 1 => ("HoarseHill$Tape", "length", "I", false)
  | 2 => ("HoarseHill$Tape", "position", "I", false)
  | _ => ("HoarseHill$Tape", "fault", "I", false)
def tyX7 : Nat → FieldType := fun k => match k with
  | 0 => .array .int
  | 1 => .int
  | 2 => .int
  | _ => .int
abbrev wsX70 : List Cond := u_ws RX7 TX7 4
theorem nmX7 : ∀ a, a < 4 → ∀ b, b < 4 → a ≠ b → (TX7 a).2.1 ≠ (TX7 b).2.1 := by decide +kernel
theorem tyX7_ok : ∀ k, k < 4 → parseFieldDescriptor (TX7 k).2.2.1 = some (tyX7 k) := by decide +kernel
abbrev cX7_init : ByteArray := prog_9_method_1_code
def yX7_init : MethodName := ⟨RX7, "<init>", "()V"⟩
abbrev cX7_isFull : ByteArray := prog_9_method_2_code
def yX7_isFull : MethodName := ⟨RX7, "isFull", "()Z"⟩
abbrev cX7_append : ByteArray := prog_9_method_3_code
def yX7_append : MethodName := ⟨RX7, "append", "(I)I"⟩
abbrev cX7_empty : ByteArray := prog_9_method_4_code
def yX7_empty : MethodName := ⟨RX7, "empty", "()V"⟩
abbrev cX7_readInto : ByteArray := prog_9_method_5_code
def yX7_readInto : MethodName := ⟨RX7, "readInto", "(LHoarseHill$Hill;)V"⟩
abbrev cX7_readLaw : ByteArray := prog_9_method_6_code
def yX7_readLaw : MethodName := ⟨RX7, "readLaw", "(LHoarseHill$Hill;)V"⟩
abbrev cX7_readMotions : ByteArray := prog_9_method_7_code
def yX7_readMotions : MethodName := ⟨RX7, "readMotions", "(LHoarseHill$Hill;)V"⟩
abbrev cX7_readMotion : ByteArray := prog_9_method_8_code
def yX7_readMotion : MethodName := ⟨RX7, "readMotion", "(LHoarseHill$Hill;)V"⟩
abbrev cX7_readMembers : ByteArray := prog_9_method_9_code
def yX7_readMembers : MethodName := ⟨RX7, "readMembers", "(LHoarseHill$Hill;)V"⟩
abbrev cX7_readMember : ByteArray := prog_9_method_10_code
def yX7_readMember : MethodName := ⟨RX7, "readMember", "(LHoarseHill$Hill;)V"⟩
abbrev cX7_letterAt : ByteArray := prog_9_method_11_code
def yX7_letterAt : MethodName := ⟨RX7, "letterAt", "(I)I"⟩
abbrev cX7_take : ByteArray := prog_9_method_12_code
def yX7_take : MethodName := ⟨RX7, "take", "(I)V"⟩
abbrev cX7_takeNumber : ByteArray := prog_9_method_13_code
def yX7_takeNumber : MethodName := ⟨RX7, "takeNumber", "(II)I"⟩
abbrev cX7_figuresAt : ByteArray := prog_9_method_14_code
def yX7_figuresAt : MethodName := ⟨RX7, "figuresAt", "(I)I"⟩
abbrev cX7_isFigure : ByteArray := prog_9_method_15_code
def yX7_isFigure : MethodName := ⟨RX7, "isFigure", "(I)Z"⟩
abbrev cX7_sortOf : ByteArray := prog_9_method_16_code
def yX7_sortOf : MethodName := ⟨RX7, "sortOf", "(I)I"⟩
def RX8 : String := "HoarseHill"
def TX8 : u_T := fun k => match k with
  | 0 => ("HoarseHill", "rows", "LHoarseHill$Rows;", true)
  | 1 => ("HoarseHill", "tape", "LHoarseHill$Tape;", true)
  | 2 => ("HoarseHill", "now", "LHoarseHill$Hill;", true)
  | 3 => ("HoarseHill", "draft", "LHoarseHill$Hill;", true)
  | 4 => ("HoarseHill", "firstImage", "LHoarseHill$Hill;", true)
  | 5 => ("HoarseHill", "secondImage", "LHoarseHill$Hill;", true)
  | 6 => ("HoarseHill", "acts", "LHoarseHill$Acts;", true)
  | 7 => ("HoarseHill", "foretelling", "LHoarseHill$Foretelling;", true)
  | 8 => ("HoarseHill", "planning", "LHoarseHill$Planning;", true)
  | 9 => ("HoarseHill", "matching", "LHoarseHill$Matching;", true)
  | 10 => ("HoarseHill", "asks", "LHoarseHill$Asks;", true)
  | 11 => ("HoarseHill", "latestFault", "I", false)
  | _ => ("HoarseHill", "latestFinding", "I", false)
def tyX8 : Nat → FieldType := fun k => match k with
  | 0 => .object "HoarseHill$Rows"
  | 1 => .object "HoarseHill$Tape"
  | 2 => .object "HoarseHill$Hill"
  | 3 => .object "HoarseHill$Hill"
  | 4 => .object "HoarseHill$Hill"
  | 5 => .object "HoarseHill$Hill"
  | 6 => .object "HoarseHill$Acts"
  | 7 => .object "HoarseHill$Foretelling"
  | 8 => .object "HoarseHill$Planning"
  | 9 => .object "HoarseHill$Matching"
  | 10 => .object "HoarseHill$Asks"
  | 11 => .int
  | _ => .int
abbrev wsX80 : List Cond := u_ws RX8 TX8 13
theorem nmX8 : ∀ a, a < 13 → ∀ b, b < 13 → a ≠ b → (TX8 a).2.1 ≠ (TX8 b).2.1 := by decide +kernel
theorem tyX8_ok : ∀ k, k < 13 → parseFieldDescriptor (TX8 k).2.2.1 = some (tyX8 k) := by decide +kernel
abbrev cX8_init : ByteArray := prog_1_method_1_code
def yX8_init : MethodName := ⟨RX8, "<init>", "()V"⟩
abbrev cX8_row : ByteArray := prog_1_method_2_code
def yX8_row : MethodName := ⟨RX8, "row", "(III)I"⟩
abbrev cX8_set : ByteArray := prog_1_method_3_code
def yX8_set : MethodName := ⟨RX8, "set", "(III)I"⟩
abbrev cX8_copy : ByteArray := prog_1_method_4_code
def yX8_copy : MethodName := ⟨RX8, "copy", "(IIIII)I"⟩
abbrev cX8_drop : ByteArray := prog_1_method_5_code
def yX8_drop : MethodName := ⟨RX8, "drop", "(I)I"⟩
abbrev cX8_feed : ByteArray := prog_1_method_6_code
def yX8_feed : MethodName := ⟨RX8, "feed", "(I)I"⟩
abbrev cX8_hill : ByteArray := prog_1_method_7_code
def yX8_hill : MethodName := ⟨RX8, "hill", "()I"⟩
abbrev cX8_fault : ByteArray := prog_1_method_8_code
def yX8_fault : MethodName := ⟨RX8, "fault", "()I"⟩
abbrev cX8_speak : ByteArray := prog_1_method_9_code
def yX8_speak : MethodName := ⟨RX8, "speak", "(I)I"⟩
abbrev cX8_lozenge : ByteArray := prog_1_method_10_code
def yX8_lozenge : MethodName := ⟨RX8, "lozenge", "(I)I"⟩
abbrev cX8_cold : ByteArray := prog_1_method_11_code
def yX8_cold : MethodName := ⟨RX8, "cold", "(II)I"⟩
abbrev cX8_needs : ByteArray := prog_1_method_12_code
def yX8_needs : MethodName := ⟨RX8, "needs", "(II)I"⟩
abbrev cX8_undo : ByteArray := prog_1_method_13_code
def yX8_undo : MethodName := ⟨RX8, "undo", "()I"⟩
abbrev cX8_member : ByteArray := prog_1_method_14_code
def yX8_member : MethodName := ⟨RX8, "member", "(II)I"⟩
abbrev cX8_motion : ByteArray := prog_1_method_15_code
def yX8_motion : MethodName := ⟨RX8, "motion", "(I)I"⟩
abbrev cX8_weight : ByteArray := prog_1_method_16_code
def yX8_weight : MethodName := ⟨RX8, "weight", "(I)I"⟩
abbrev cX8_power : ByteArray := prog_1_method_17_code
def yX8_power : MethodName := ⟨RX8, "power", "(II)I"⟩
abbrev cX8_fewest : ByteArray := prog_1_method_18_code
def yX8_fewest : MethodName := ⟨RX8, "fewest", "(I)I"⟩
abbrev cX8_plan : ByteArray := prog_1_method_19_code
def yX8_plan : MethodName := ⟨RX8, "plan", "(II)I"⟩
abbrev cX8_agenda : ByteArray := prog_1_method_20_code
def yX8_agenda : MethodName := ⟨RX8, "agenda", "(I)I"⟩
abbrev cX8_lozenges : ByteArray := prog_1_method_21_code
def yX8_lozenges : MethodName := ⟨RX8, "lozenges", "(I)I"⟩
abbrev cX8_later : ByteArray := prog_1_method_22_code
def yX8_later : MethodName := ⟨RX8, "later", "(II)I"⟩
abbrev cX8_carried : ByteArray := prog_1_method_23_code
def yX8_carried : MethodName := ⟨RX8, "carried", "(I)I"⟩
abbrev cX8_fits : ByteArray := prog_1_method_24_code
def yX8_fits : MethodName := ⟨RX8, "fits", "(IIIII)I"⟩
abbrev cX8_costs : ByteArray := prog_1_method_25_code
def yX8_costs : MethodName := ⟨RX8, "costs", "(III)I"⟩
abbrev cX8_colds : ByteArray := prog_1_method_26_code
def yX8_colds : MethodName := ⟨RX8, "colds", "(II)I"⟩
abbrev cX8_drawn : ByteArray := prog_1_method_27_code
def yX8_drawn : MethodName := ⟨RX8, "drawn", "(III)I"⟩
abbrev cX8_image : ByteArray := prog_1_method_28_code
def yX8_image : MethodName := ⟨RX8, "image", "(I)I"⟩
abbrev cX8_restore : ByteArray := prog_1_method_29_code
def yX8_restore : MethodName := ⟨RX8, "restore", "(I)I"⟩
abbrev cX8_kind : ByteArray := prog_1_method_30_code
def yX8_kind : MethodName := ⟨RX8, "kind", "(I)I"⟩
abbrev cX8_as : ByteArray := prog_1_method_31_code
def yX8_as : MethodName := ⟨RX8, "as", "(II)I"⟩
abbrev cX8_ask : ByteArray := prog_1_method_32_code
def yX8_ask : MethodName := ⟨RX8, "ask", "(II)I"⟩
abbrev cX8_trace : ByteArray := prog_1_method_33_code
def yX8_trace : MethodName := ⟨RX8, "trace", "(I)I"⟩
abbrev cX8_count : ByteArray := prog_1_method_34_code
def yX8_count : MethodName := ⟨RX8, "count", "(I)I"⟩
abbrev cX8_status : ByteArray := prog_1_method_35_code
def yX8_status : MethodName := ⟨RX8, "status", "()I"⟩
abbrev cX8_found : ByteArray := prog_1_method_36_code
def yX8_found : MethodName := ⟨RX8, "found", "(I)I"⟩
abbrev cX8_foundNothing : ByteArray := prog_1_method_37_code
def yX8_foundNothing : MethodName := ⟨RX8, "foundNothing", "(I)I"⟩
abbrev cX8_imageOf : ByteArray := prog_1_method_38_code
def yX8_imageOf : MethodName := ⟨RX8, "imageOf", "(I)LHoarseHill$Hill;"⟩
abbrev cX8_isEither : ByteArray := prog_1_method_39_code
def yX8_isEither : MethodName := ⟨RX8, "isEither", "(I)Z"⟩
abbrev cX8_isPick : ByteArray := prog_1_method_40_code
def yX8_isPick : MethodName := ⟨RX8, "isPick", "(I)Z"⟩
abbrev cX8_isOfKind : ByteArray := prog_1_method_41_code
def yX8_isOfKind : MethodName := ⟨RX8, "isOfKind", "(II)Z"⟩
abbrev cX8_breathAfterLozenges : ByteArray := prog_1_method_42_code
def yX8_breathAfterLozenges : MethodName := ⟨RX8, "breathAfterLozenges", "(II)I"⟩
abbrev cX8_lowest : ByteArray := prog_1_method_43_code
def yX8_lowest : MethodName := ⟨RX8, "lowest", "(III)I"⟩
abbrev cX8_greatestShared : ByteArray := prog_1_method_44_code
def yX8_greatestShared : MethodName := ⟨RX8, "greatestShared", "(II)I"⟩
def RX9 : String := "HoarseHillModel"
def TX9 : u_T := fun k => match k with
  | 0 => ("HoarseHillModel", "row", "[I", true)
  | 1 => ("HoarseHillModel", "isHill", "Z", false)
  | 2 => ("HoarseHillModel", "undos", "I", false)
  | 3 => ("HoarseHillModel", "isKept", "[Z", true)
  | 4 => ("HoarseHillModel", "lanes", "[I", true)
  | 5 => ("HoarseHillModel", "sizes", "[I", true)
  | 6 => ("HoarseHillModel", "items", "[I", true)
  | 7 => ("HoarseHillModel", "tape", "[I", true)
  | 8 => ("HoarseHillModel", "length", "I", false)
  | 9 => ("HoarseHillModel", "fault", "I", false)
  | 10 => ("HoarseHillModel", "status", "I", false)
  | 11 => ("HoarseHillModel", "trace", "[I", true)
  | 12 => ("HoarseHillModel", "traced", "I", false)
  | 13 => ("HoarseHillModel", "at", "I", false)
  | 14 => ("HoarseHillModel", "wrong", "I", false)
  | 15 => ("HoarseHillModel", "number", "I", false)
  | 16 => ("HoarseHillModel", "sets", "[I", true)
  | 17 => ("HoarseHillModel", "bestSets", "[I", true)
  | _ => ("HoarseHillModel", "bestOrder", "[I", true)
def tyX9 : Nat → FieldType := fun k => match k with
  | 0 => .array .int
  | 1 => .boolean
  | 2 => .int
  | 3 => .array .boolean
  | 4 => .array .int
  | 5 => .array .int
  | 6 => .array .int
  | 7 => .array .int
  | 8 => .int
  | 9 => .int
  | 10 => .int
  | 11 => .array .int
  | 12 => .int
  | 13 => .int
  | 14 => .int
  | 15 => .int
  | 16 => .array .int
  | 17 => .array .int
  | _ => .array .int
abbrev wsX90 : List Cond := u_ws RX9 TX9 19
theorem nmX9 : ∀ a, a < 19 → ∀ b, b < 19 → a ≠ b → (TX9 a).2.1 ≠ (TX9 b).2.1 := by decide +kernel
theorem tyX9_ok : ∀ k, k < 19 → parseFieldDescriptor (TX9 k).2.2.1 = some (tyX9 k) := by decide +kernel
abbrev cX9_init : ByteArray := prog_11_method_1_code
def yX9_init : MethodName := ⟨RX9, "<init>", "()V"⟩
abbrev cX9_in : ByteArray := prog_11_method_2_code
def yX9_in : MethodName := ⟨RX9, "in", "(JJJ)Z"⟩
abbrev cX9_has : ByteArray := prog_11_method_3_code
def yX9_has : MethodName := ⟨RX9, "has", "(II)Z"⟩
abbrev cX9_between : ByteArray := prog_11_method_4_code
def yX9_between : MethodName := ⟨RX9, "between", "(I)I"⟩
abbrev cX9_bits : ByteArray := prog_11_method_5_code
def yX9_bits : MethodName := ⟨RX9, "bits", "(I)I"⟩
abbrev cX9_find : ByteArray := prog_11_method_6_code
def yX9_find : MethodName := ⟨RX9, "find", "(I)I"⟩
abbrev cX9_well : ByteArray := prog_11_method_7_code
def yX9_well : MethodName := ⟨RX9, "well", "(I)I"⟩
abbrev cX9_isRow : ByteArray := prog_11_method_8_code
def yX9_isRow : MethodName := ⟨RX9, "isRow", "(I)Z"⟩
abbrev cX9_row : ByteArray := prog_11_method_9_code
def yX9_row : MethodName := ⟨RX9, "row", "(III)I"⟩
abbrev cX9_narrow : ByteArray := prog_11_method_10_code
def yX9_narrow : MethodName := ⟨RX9, "narrow", "(II)I"⟩
abbrev cX9_set : ByteArray := prog_11_method_11_code
def yX9_set : MethodName := ⟨RX9, "set", "(III)I"⟩
abbrev cX9_isSpan : ByteArray := prog_11_method_12_code
def yX9_isSpan : MethodName := ⟨RX9, "isSpan", "(III)Z"⟩
abbrev cX9_copy : ByteArray := prog_11_method_13_code
def yX9_copy : MethodName := ⟨RX9, "copy", "(IIIII)I"⟩
abbrev cX9_drop : ByteArray := prog_11_method_14_code
def yX9_drop : MethodName := ⟨RX9, "drop", "(I)I"⟩
abbrev cX9_feed : ByteArray := prog_11_method_15_code
def yX9_feed : MethodName := ⟨RX9, "feed", "(I)I"⟩
abbrev cX9_isLetter : ByteArray := prog_11_method_16_code
def yX9_isLetter : MethodName := ⟨RX9, "isLetter", "(I)Z"⟩
abbrev cX9_isFigure : ByteArray := prog_11_method_17_code
def yX9_isFigure : MethodName := ⟨RX9, "isFigure", "(I)Z"⟩
abbrev cX9_refuse : ByteArray := prog_11_method_18_code
def yX9_refuse : MethodName := ⟨RX9, "refuse", "(I)Z"⟩
abbrev cX9_sign : ByteArray := prog_11_method_19_code
def yX9_sign : MethodName := ⟨RX9, "sign", "(I)Z"⟩
abbrev cX9_readsNumber : ByteArray := prog_11_method_20_code
def yX9_readsNumber : MethodName := ⟨RX9, "readsNumber", "(II)Z"⟩
abbrev cX9_readsLaw : ByteArray := prog_11_method_21_code
def yX9_readsLaw : MethodName := ⟨RX9, "readsLaw", "()Z"⟩
abbrev cX9_readsMotion : ByteArray := prog_11_method_22_code
def yX9_readsMotion : MethodName := ⟨RX9, "readsMotion", "()Z"⟩
abbrev cX9_kindOfLetter : ByteArray := prog_11_method_23_code
def yX9_kindOfLetter : MethodName := ⟨RX9, "kindOfLetter", "(I)I"⟩
abbrev cX9_readsMember : ByteArray := prog_11_method_24_code
def yX9_readsMember : MethodName := ⟨RX9, "readsMember", "()Z"⟩
abbrev cX9_isSort : ByteArray := prog_11_method_25_code
def yX9_isSort : MethodName := ⟨RX9, "isSort", "()Z"⟩
abbrev cX9_reads : ByteArray := prog_11_method_26_code
def yX9_reads : MethodName := ⟨RX9, "reads", "()Z"⟩
abbrev cX9_hill : ByteArray := prog_11_method_27_code
def yX9_hill : MethodName := ⟨RX9, "hill", "()I"⟩
abbrev cX9_fault : ByteArray := prog_11_method_28_code
def yX9_fault : MethodName := ⟨RX9, "fault", "()I"⟩
abbrev cX9_copyTown : ByteArray := prog_11_method_29_code
def yX9_copyTown : MethodName := ⟨RX9, "copyTown", "(II)V"⟩
abbrev cX9_keepPast : ByteArray := prog_11_method_30_code
def yX9_keepPast : MethodName := ⟨RX9, "keepPast", "()V"⟩
abbrev cX9_undo : ByteArray := prog_11_method_31_code
def yX9_undo : MethodName := ⟨RX9, "undo", "()I"⟩
abbrev cX9_isMember : ByteArray := prog_11_method_32_code
def yX9_isMember : MethodName := ⟨RX9, "isMember", "(I)Z"⟩
abbrev cX9_costBy : ByteArray := prog_11_method_33_code
def yX9_costBy : MethodName := ⟨RX9, "costBy", "(II)I"⟩
abbrev cX9_costOf : ByteArray := prog_11_method_34_code
def yX9_costOf : MethodName := ⟨RX9, "costOf", "(II)I"⟩
abbrev cX9_canSpeak : ByteArray := prog_11_method_35_code
def yX9_canSpeak : MethodName := ⟨RX9, "canSpeak", "(I)I"⟩
abbrev cX9_weighs : ByteArray := prog_11_method_36_code
def yX9_weighs : MethodName := ⟨RX9, "weighs", "(II)I"⟩
abbrev cX9_weightOf : ByteArray := prog_11_method_37_code
def yX9_weightOf : MethodName := ⟨RX9, "weightOf", "(II)I"⟩
abbrev cX9_motionOf : ByteArray := prog_11_method_38_code
def yX9_motionOf : MethodName := ⟨RX9, "motionOf", "(I)I"⟩
abbrev cX9_isCarried : ByteArray := prog_11_method_39_code
def yX9_isCarried : MethodName := ⟨RX9, "isCarried", "(II)Z"⟩
abbrev cX9_passFor : ByteArray := prog_11_method_40_code
def yX9_passFor : MethodName := ⟨RX9, "passFor", "(III)I"⟩
abbrev cX9_pass : ByteArray := prog_11_method_41_code
def yX9_pass : MethodName := ⟨RX9, "pass", "(II)I"⟩
abbrev cX9_passAll : ByteArray := prog_11_method_42_code
def yX9_passAll : MethodName := ⟨RX9, "passAll", "(I)I"⟩
abbrev cX9_areMembers : ByteArray := prog_11_method_43_code
def yX9_areMembers : MethodName := ⟨RX9, "areMembers", "(I)Z"⟩
abbrev cX9_speak : ByteArray := prog_11_method_44_code
def yX9_speak : MethodName := ⟨RX9, "speak", "(I)I"⟩
abbrev cX9_lozenge : ByteArray := prog_11_method_45_code
def yX9_lozenge : MethodName := ⟨RX9, "lozenge", "(I)I"⟩
abbrev cX9_cold : ByteArray := prog_11_method_46_code
def yX9_cold : MethodName := ⟨RX9, "cold", "(II)I"⟩
abbrev cX9_isMotion : ByteArray := prog_11_method_47_code
def yX9_isMotion : MethodName := ⟨RX9, "isMotion", "(I)Z"⟩
abbrev cX9_needs : ByteArray := prog_11_method_48_code
def yX9_needs : MethodName := ⟨RX9, "needs", "(II)I"⟩
abbrev cX9_member : ByteArray := prog_11_method_49_code
def yX9_member : MethodName := ⟨RX9, "member", "(II)I"⟩
abbrev cX9_motion : ByteArray := prog_11_method_50_code
def yX9_motion : MethodName := ⟨RX9, "motion", "(I)I"⟩
abbrev cX9_weight : ByteArray := prog_11_method_51_code
def yX9_weight : MethodName := ⟨RX9, "weight", "(I)I"⟩
abbrev cX9_layTried : ByteArray := prog_11_method_52_code
def yX9_layTried : MethodName := ⟨RX9, "layTried", "()V"⟩
abbrev cX9_tellPart : ByteArray := prog_11_method_53_code
def yX9_tellPart : MethodName := ⟨RX9, "tellPart", "(III)I"⟩
abbrev cX9_factorial : ByteArray := prog_11_method_54_code
def yX9_factorial : MethodName := ⟨RX9, "factorial", "(I)I"⟩
abbrev cX9_power : ByteArray := prog_11_method_55_code
def yX9_power : MethodName := ⟨RX9, "power", "(II)I"⟩
abbrev cX9_fewest : ByteArray := prog_11_method_56_code
def yX9_fewest : MethodName := ⟨RX9, "fewest", "(I)I"⟩
abbrev cX9_nextSet : ByteArray := prog_11_method_57_code
def yX9_nextSet : MethodName := ⟨RX9, "nextSet", "(II)I"⟩
abbrev cX9_mostCarried : ByteArray := prog_11_method_58_code
def yX9_mostCarried : MethodName := ⟨RX9, "mostCarried", "(I)I"⟩
abbrev cX9_plan : ByteArray := prog_11_method_59_code
def yX9_plan : MethodName := ⟨RX9, "plan", "(II)I"⟩
abbrev cX9_carriedBy : ByteArray := prog_11_method_60_code
def yX9_carriedBy : MethodName := ⟨RX9, "carriedBy", "(I)I"⟩
abbrev cX9_agenda : ByteArray := prog_11_method_61_code
def yX9_agenda : MethodName := ⟨RX9, "agenda", "(I)I"⟩
abbrev cX9_gets : ByteArray := prog_11_method_62_code
def yX9_gets : MethodName := ⟨RX9, "gets", "(II)I"⟩
abbrev cX9_lozengesIn : ByteArray := prog_11_method_63_code
def yX9_lozengesIn : MethodName := ⟨RX9, "lozengesIn", "(I)I"⟩
abbrev cX9_turns : ByteArray := prog_11_method_64_code
def yX9_turns : MethodName := ⟨RX9, "turns", "(I)Z"⟩
abbrev cX9_lozenges : ByteArray := prog_11_method_65_code
def yX9_lozenges : MethodName := ⟨RX9, "lozenges", "(I)I"⟩
abbrev cX9_later : ByteArray := prog_11_method_66_code
def yX9_later : MethodName := ⟨RX9, "later", "(II)I"⟩
abbrev cX9_carried : ByteArray := prog_11_method_67_code
def yX9_carried : MethodName := ⟨RX9, "carried", "(I)I"⟩
abbrev cX9_noItems : ByteArray := prog_11_method_68_code
def yX9_noItems : MethodName := ⟨RX9, "noItems", "(III)I"⟩
abbrev cX9_isSo : ByteArray := prog_11_method_69_code
def yX9_isSo : MethodName := ⟨RX9, "isSo", "(IIIII)Z"⟩
abbrev cX9_fits : ByteArray := prog_11_method_70_code
def yX9_fits : MethodName := ⟨RX9, "fits", "(IIIII)I"⟩
abbrev cX9_costs : ByteArray := prog_11_method_71_code
def yX9_costs : MethodName := ⟨RX9, "costs", "(III)I"⟩
abbrev cX9_colds : ByteArray := prog_11_method_72_code
def yX9_colds : MethodName := ⟨RX9, "colds", "(II)I"⟩
abbrev cX9_drawn : ByteArray := prog_11_method_73_code
def yX9_drawn : MethodName := ⟨RX9, "drawn", "(III)I"⟩
abbrev cX9_image : ByteArray := prog_11_method_74_code
def yX9_image : MethodName := ⟨RX9, "image", "(I)I"⟩
abbrev cX9_restore : ByteArray := prog_11_method_75_code
def yX9_restore : MethodName := ⟨RX9, "restore", "(I)I"⟩
abbrev cX9_kind : ByteArray := prog_11_method_76_code
def yX9_kind : MethodName := ⟨RX9, "kind", "(I)I"⟩
abbrev cX9_isOf : ByteArray := prog_11_method_77_code
def yX9_isOf : MethodName := ⟨RX9, "isOf", "(II)Z"⟩
abbrev cX9_as : ByteArray := prog_11_method_78_code
def yX9_as : MethodName := ⟨RX9, "as", "(II)I"⟩
abbrev cX9_begin : ByteArray := prog_11_method_79_code
def yX9_begin : MethodName := ⟨RX9, "begin", "(I)V"⟩
abbrev cX9_lentSize : ByteArray := prog_11_method_80_code
def yX9_lentSize : MethodName := ⟨RX9, "lentSize", "(I)I"⟩
abbrev cX9_plainSize : ByteArray := prog_11_method_81_code
def yX9_plainSize : MethodName := ⟨RX9, "plainSize", "(I)I"⟩
abbrev cX9_mildSize : ByteArray := prog_11_method_82_code
def yX9_mildSize : MethodName := ⟨RX9, "mildSize", "(I)I"⟩
abbrev cX9_sizeOf : ByteArray := prog_11_method_83_code
def yX9_sizeOf : MethodName := ⟨RX9, "sizeOf", "(I)I"⟩
abbrev cX9_lentMark : ByteArray := prog_11_method_84_code
def yX9_lentMark : MethodName := ⟨RX9, "lentMark", "(I)I"⟩
abbrev cX9_plainMark : ByteArray := prog_11_method_85_code
def yX9_plainMark : MethodName := ⟨RX9, "plainMark", "(I)I"⟩
abbrev cX9_mark : ByteArray := prog_11_method_86_code
def yX9_mark : MethodName := ⟨RX9, "mark", "(I)I"⟩
abbrev cX9_mildMark : ByteArray := prog_11_method_87_code
def yX9_mildMark : MethodName := ⟨RX9, "mildMark", "(I)I"⟩
abbrev cX9_ask : ByteArray := prog_11_method_88_code
def yX9_ask : MethodName := ⟨RX9, "ask", "(II)I"⟩
abbrev cX9_trace : ByteArray := prog_11_method_89_code
def yX9_trace : MethodName := ⟨RX9, "trace", "(I)I"⟩
abbrev cX9_count : ByteArray := prog_11_method_90_code
def yX9_count : MethodName := ⟨RX9, "count", "(I)I"⟩
abbrev cX9_status : ByteArray := prog_11_method_91_code
def yX9_status : MethodName := ⟨RX9, "status", "()I"⟩
def RJ6 : String := "java/lang/Integer"
def TJ6 : u_T := fun k => match k with
  | _ => ("", "", "", false)
def tyJ6 : Nat → FieldType := fun k => match k with
  | _ => .int
abbrev wsJ60 : List Cond := u_ws RJ6 TJ6 0
theorem nmJ6 : ∀ a, a < 0 → ∀ b, b < 0 → a ≠ b → (TJ6 a).2.1 ≠ (TJ6 b).2.1 := by decide +kernel
theorem tyJ6_ok : ∀ k, k < 0 → parseFieldDescriptor (TJ6 k).2.2.1 = some (tyJ6 k) := by decide +kernel
abbrev cJ6_bitCount_0f7a4 : ByteArray := prog_12_method_49_code
def yJ6_bitCount_0f7a4 : MethodName := ⟨RJ6, "bitCount", "(I)I"⟩
def RJ9 : String := "java/lang/Math"
def TJ9 : u_T := fun k => match k with
  | _ => ("", "", "", false)
def tyJ9 : Nat → FieldType := fun k => match k with
  | _ => .int
abbrev wsJ90 : List Cond := u_ws RJ9 TJ9 0
theorem nmJ9 : ∀ a, a < 0 → ∀ b, b < 0 → a ≠ b → (TJ9 a).2.1 ≠ (TJ9 b).2.1 := by decide +kernel
theorem tyJ9_ok : ∀ k, k < 0 → parseFieldDescriptor (TJ9 k).2.2.1 = some (tyJ9 k) := by decide +kernel
abbrev cJ9_max_7cf53 : ByteArray := prog_13_method_65_code
def yJ9_max_7cf53 : MethodName := ⟨RJ9, "max", "(II)I"⟩
abbrev cJ9_min_7cf53 : ByteArray := prog_13_method_69_code
def yJ9_min_7cf53 : MethodName := ⟨RJ9, "min", "(II)I"⟩
def RJ10 : String := "java/lang/System"
def TJ10 : u_T := fun k => match k with
  | _ => ("", "", "", false)
def tyJ10 : Nat → FieldType := fun k => match k with
  | _ => .int
abbrev wsJ100 : List Cond := u_ws RJ10 TJ10 0
theorem nmJ10 : ∀ a, a < 0 → ∀ b, b < 0 → a ≠ b → (TJ10 a).2.1 ≠ (TJ10 b).2.1 := by decide +kernel
theorem tyJ10_ok : ∀ k, k < 0 → parseFieldDescriptor (TJ10 k).2.2.1 = some (tyJ10 k) := by decide +kernel
def RL : String := "HoarseHillLaw"
abbrev cL_law : ByteArray := code
def yL_law : MethodName := ⟨RL, "law", "([I)Z"⟩
abbrev vwCl : List vw_C := [(RX0, TX0, 3), (RX1, TX1, 4), (RX2, TX2, 3), (RX3, TX3, 10), (RX4, TX4, 3), (RX5, TX5, 7), (RX6, TX6, 3), (RX7, TX7, 4), (RX8, TX8, 13), (RX9, TX9, 19)]
