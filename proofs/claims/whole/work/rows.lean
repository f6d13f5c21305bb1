section
-- ===== PART A: goes FIRST, ahead of the names: the tables' words, and 'selects' of the private methods out of them =====
/-- a private method of a class that the tables say can be made, by its rows of tables_1 -/
def lw_okq (q : MethodName × Nat) : Prop := (q.1.cls ≠ "java/lang/invoke/MethodHandle" ∧ q.1.cls ≠ "java/lang/invoke/VarHandle") ∧ Cond.instantiable q.1.cls q.2 ∈ tables_1 ∧ Cond.privateMethod q.1 ∈ tables_1 ∧ Cond.instanceMethod q.1 ∈ tables_1
theorem lw_p0 : lw_okq (⟨"HoarseHill", "found", "(I)I"⟩, 13) := ⟨⟨by decide +kernel, by decide +kernel⟩, List.mem_of_getElem? (i := 15) (by decide +kernel), List.mem_of_getElem? (i := 274) (by decide +kernel), List.mem_of_getElem? (i := 275) (by decide +kernel)⟩
theorem lw_p1 : lw_okq (⟨"HoarseHill", "foundNothing", "(I)I"⟩, 13) := ⟨⟨by decide +kernel, by decide +kernel⟩, List.mem_of_getElem? (i := 15) (by decide +kernel), List.mem_of_getElem? (i := 283) (by decide +kernel), List.mem_of_getElem? (i := 284) (by decide +kernel)⟩
theorem lw_p2 : lw_okq (⟨"HoarseHill$Tape", "readLaw", "(LHoarseHill$Hill;)V"⟩, 4) := ⟨⟨by decide +kernel, by decide +kernel⟩, List.mem_of_getElem? (i := 107) (by decide +kernel), List.mem_of_getElem? (i := 351) (by decide +kernel), List.mem_of_getElem? (i := 352) (by decide +kernel)⟩
theorem lw_p3 : lw_okq (⟨"HoarseHill$Tape", "take", "(I)V"⟩, 4) := ⟨⟨by decide +kernel, by decide +kernel⟩, List.mem_of_getElem? (i := 107) (by decide +kernel), List.mem_of_getElem? (i := 355) (by decide +kernel), List.mem_of_getElem? (i := 356) (by decide +kernel)⟩
theorem lw_p4 : lw_okq (⟨"HoarseHill$Tape", "letterAt", "(I)I"⟩, 4) := ⟨⟨by decide +kernel, by decide +kernel⟩, List.mem_of_getElem? (i := 107) (by decide +kernel), List.mem_of_getElem? (i := 359) (by decide +kernel), List.mem_of_getElem? (i := 360) (by decide +kernel)⟩
theorem lw_p5 : lw_okq (⟨"HoarseHill$Tape", "takeNumber", "(II)I"⟩, 4) := ⟨⟨by decide +kernel, by decide +kernel⟩, List.mem_of_getElem? (i := 107) (by decide +kernel), List.mem_of_getElem? (i := 363) (by decide +kernel), List.mem_of_getElem? (i := 364) (by decide +kernel)⟩
theorem lw_p6 : lw_okq (⟨"HoarseHill$Tape", "figuresAt", "(I)I"⟩, 4) := ⟨⟨by decide +kernel, by decide +kernel⟩, List.mem_of_getElem? (i := 107) (by decide +kernel), List.mem_of_getElem? (i := 367) (by decide +kernel), List.mem_of_getElem? (i := 368) (by decide +kernel)⟩
theorem lw_p7 : lw_okq (⟨"HoarseHill$Tape", "readMotions", "(LHoarseHill$Hill;)V"⟩, 4) := ⟨⟨by decide +kernel, by decide +kernel⟩, List.mem_of_getElem? (i := 107) (by decide +kernel), List.mem_of_getElem? (i := 374) (by decide +kernel), List.mem_of_getElem? (i := 375) (by decide +kernel)⟩
theorem lw_p8 : lw_okq (⟨"HoarseHill$Tape", "readMotion", "(LHoarseHill$Hill;)V"⟩, 4) := ⟨⟨by decide +kernel, by decide +kernel⟩, List.mem_of_getElem? (i := 107) (by decide +kernel), List.mem_of_getElem? (i := 378) (by decide +kernel), List.mem_of_getElem? (i := 379) (by decide +kernel)⟩
theorem lw_p9 : lw_okq (⟨"HoarseHill$Tape", "readMembers", "(LHoarseHill$Hill;)V"⟩, 4) := ⟨⟨by decide +kernel, by decide +kernel⟩, List.mem_of_getElem? (i := 107) (by decide +kernel), List.mem_of_getElem? (i := 386) (by decide +kernel), List.mem_of_getElem? (i := 387) (by decide +kernel)⟩
theorem lw_p10 : lw_okq (⟨"HoarseHill$Tape", "readMember", "(LHoarseHill$Hill;)V"⟩, 4) := ⟨⟨by decide +kernel, by decide +kernel⟩, List.mem_of_getElem? (i := 107) (by decide +kernel), List.mem_of_getElem? (i := 390) (by decide +kernel), List.mem_of_getElem? (i := 391) (by decide +kernel)⟩
theorem lw_p11 : lw_okq (⟨"HoarseHill$Planning", "tryDay", "(II)V"⟩, 7) := ⟨⟨by decide +kernel, by decide +kernel⟩, List.mem_of_getElem? (i := 162) (by decide +kernel), List.mem_of_getElem? (i := 564) (by decide +kernel), List.mem_of_getElem? (i := 565) (by decide +kernel)⟩
theorem lw_p12 : lw_okq (⟨"HoarseHill$Planning", "closePlan", "(II)V"⟩, 7) := ⟨⟨by decide +kernel, by decide +kernel⟩, List.mem_of_getElem? (i := 162) (by decide +kernel), List.mem_of_getElem? (i := 569) (by decide +kernel), List.mem_of_getElem? (i := 570) (by decide +kernel)⟩
theorem lw_p13 : lw_okq (⟨"HoarseHill$Planning", "takePath", "(II)V"⟩, 7) := ⟨⟨by decide +kernel, by decide +kernel⟩, List.mem_of_getElem? (i := 162) (by decide +kernel), List.mem_of_getElem? (i := 574) (by decide +kernel), List.mem_of_getElem? (i := 575) (by decide +kernel)⟩
theorem lw_p14 : lw_okq (⟨"HoarseHill$Planning", "keepBreaths", "(I)V"⟩, 7) := ⟨⟨by decide +kernel, by decide +kernel⟩, List.mem_of_getElem? (i := 162) (by decide +kernel), List.mem_of_getElem? (i := 578) (by decide +kernel), List.mem_of_getElem? (i := 579) (by decide +kernel)⟩
theorem lw_p15 : lw_okq (⟨"HoarseHill$Planning", "giveBreathsBack", "(I)V"⟩, 7) := ⟨⟨by decide +kernel, by decide +kernel⟩, List.mem_of_getElem? (i := 162) (by decide +kernel), List.mem_of_getElem? (i := 584) (by decide +kernel), List.mem_of_getElem? (i := 585) (by decide +kernel)⟩
def lw_privs_1 : List (MethodName × Nat) := [(⟨"HoarseHill", "found", "(I)I"⟩, 13), (⟨"HoarseHill", "foundNothing", "(I)I"⟩, 13), (⟨"HoarseHill$Tape", "readLaw", "(LHoarseHill$Hill;)V"⟩, 4), (⟨"HoarseHill$Tape", "take", "(I)V"⟩, 4), (⟨"HoarseHill$Tape", "letterAt", "(I)I"⟩, 4), (⟨"HoarseHill$Tape", "takeNumber", "(II)I"⟩, 4), (⟨"HoarseHill$Tape", "figuresAt", "(I)I"⟩, 4), (⟨"HoarseHill$Tape", "readMotions", "(LHoarseHill$Hill;)V"⟩, 4), (⟨"HoarseHill$Tape", "readMotion", "(LHoarseHill$Hill;)V"⟩, 4), (⟨"HoarseHill$Tape", "readMembers", "(LHoarseHill$Hill;)V"⟩, 4), (⟨"HoarseHill$Tape", "readMember", "(LHoarseHill$Hill;)V"⟩, 4), (⟨"HoarseHill$Planning", "tryDay", "(II)V"⟩, 7), (⟨"HoarseHill$Planning", "closePlan", "(II)V"⟩, 7), (⟨"HoarseHill$Planning", "takePath", "(II)V"⟩, 7), (⟨"HoarseHill$Planning", "keepBreaths", "(I)V"⟩, 7), (⟨"HoarseHill$Planning", "giveBreathsBack", "(I)V"⟩, 7)]
theorem lw_r1 : ∀ q ∈ lw_privs_1, lw_okq q := List.forall_mem_cons.mpr ⟨lw_p0, List.forall_mem_cons.mpr ⟨lw_p1, List.forall_mem_cons.mpr ⟨lw_p2, List.forall_mem_cons.mpr ⟨lw_p3, List.forall_mem_cons.mpr ⟨lw_p4, List.forall_mem_cons.mpr ⟨lw_p5, List.forall_mem_cons.mpr ⟨lw_p6, List.forall_mem_cons.mpr ⟨lw_p7, List.forall_mem_cons.mpr ⟨lw_p8, List.forall_mem_cons.mpr ⟨lw_p9, List.forall_mem_cons.mpr ⟨lw_p10, List.forall_mem_cons.mpr ⟨lw_p11, List.forall_mem_cons.mpr ⟨lw_p12, List.forall_mem_cons.mpr ⟨lw_p13, List.forall_mem_cons.mpr ⟨lw_p14, List.forall_mem_cons.mpr ⟨lw_p15, fun _ h => absurd h List.not_mem_nil⟩⟩⟩⟩⟩⟩⟩⟩⟩⟩⟩⟩⟩⟩⟩⟩
theorem lw_p16 : lw_okq (⟨"HoarseHill$Foretelling", "carriedInOrder", "(II)I"⟩, 3) := ⟨⟨by decide +kernel, by decide +kernel⟩, List.mem_of_getElem? (i := 146) (by decide +kernel), List.mem_of_getElem? (i := 604) (by decide +kernel), List.mem_of_getElem? (i := 605) (by decide +kernel)⟩
theorem lw_p17 : lw_okq (⟨"HoarseHill$Foretelling", "give", "(I)I"⟩, 3) := ⟨⟨by decide +kernel, by decide +kernel⟩, List.mem_of_getElem? (i := 146) (by decide +kernel), List.mem_of_getElem? (i := 616) (by decide +kernel), List.mem_of_getElem? (i := 617) (by decide +kernel)⟩
theorem lw_p18 : lw_okq (⟨"HoarseHill$Matching", "comesAbout", "(III)I"⟩, 3) := ⟨⟨by decide +kernel, by decide +kernel⟩, List.mem_of_getElem? (i := 190) (by decide +kernel), List.mem_of_getElem? (i := 656) (by decide +kernel), List.mem_of_getElem? (i := 657) (by decide +kernel)⟩
theorem lw_p19 : lw_okq (⟨"HoarseHill$Foretelling", "catchColds", "(II)I"⟩, 3) := ⟨⟨by decide +kernel, by decide +kernel⟩, List.mem_of_getElem? (i := 146) (by decide +kernel), List.mem_of_getElem? (i := 686) (by decide +kernel), List.mem_of_getElem? (i := 687) (by decide +kernel)⟩
theorem lw_p20 : lw_okq (⟨"HoarseHill$Foretelling", "breathOfAll", "()I"⟩, 3) := ⟨⟨by decide +kernel, by decide +kernel⟩, List.mem_of_getElem? (i := 146) (by decide +kernel), List.mem_of_getElem? (i := 705) (by decide +kernel), List.mem_of_getElem? (i := 706) (by decide +kernel)⟩
theorem lw_p21 : lw_okq (⟨"HoarseHill", "imageOf", "(I)LHoarseHill$Hill;"⟩, 13) := ⟨⟨by decide +kernel, by decide +kernel⟩, List.mem_of_getElem? (i := 15) (by decide +kernel), List.mem_of_getElem? (i := 713) (by decide +kernel), List.mem_of_getElem? (i := 714) (by decide +kernel)⟩
theorem lw_p22 : lw_okq (⟨"HoarseHill$Asks", "begin", "(I)V"⟩, 4) := ⟨⟨by decide +kernel, by decide +kernel⟩, List.mem_of_getElem? (i := 206) (by decide +kernel), List.mem_of_getElem? (i := 740) (by decide +kernel), List.mem_of_getElem? (i := 741) (by decide +kernel)⟩
theorem lw_p23 : lw_okq (⟨"HoarseHill$Asks", "isMild", "()Z"⟩, 4) := ⟨⟨by decide +kernel, by decide +kernel⟩, List.mem_of_getElem? (i := 206) (by decide +kernel), List.mem_of_getElem? (i := 744) (by decide +kernel), List.mem_of_getElem? (i := 745) (by decide +kernel)⟩
theorem lw_p24 : lw_okq (⟨"HoarseHill$Asks", "mildSize", "()I"⟩, 4) := ⟨⟨by decide +kernel, by decide +kernel⟩, List.mem_of_getElem? (i := 206) (by decide +kernel), List.mem_of_getElem? (i := 749) (by decide +kernel), List.mem_of_getElem? (i := 750) (by decide +kernel)⟩
theorem lw_p25 : lw_okq (⟨"HoarseHill$Asks", "leave", "(I)V"⟩, 4) := ⟨⟨by decide +kernel, by decide +kernel⟩, List.mem_of_getElem? (i := 206) (by decide +kernel), List.mem_of_getElem? (i := 753) (by decide +kernel), List.mem_of_getElem? (i := 754) (by decide +kernel)⟩
theorem lw_p26 : lw_okq (⟨"HoarseHill$Asks", "sizeOfAnyMild", "()I"⟩, 4) := ⟨⟨by decide +kernel, by decide +kernel⟩, List.mem_of_getElem? (i := 206) (by decide +kernel), List.mem_of_getElem? (i := 757) (by decide +kernel), List.mem_of_getElem? (i := 758) (by decide +kernel)⟩
theorem lw_p27 : lw_okq (⟨"HoarseHill$Asks", "lentSize", "()I"⟩, 4) := ⟨⟨by decide +kernel, by decide +kernel⟩, List.mem_of_getElem? (i := 206) (by decide +kernel), List.mem_of_getElem? (i := 761) (by decide +kernel), List.mem_of_getElem? (i := 762) (by decide +kernel)⟩
theorem lw_p28 : lw_okq (⟨"HoarseHill$Asks", "plainSize", "()I"⟩, 4) := ⟨⟨by decide +kernel, by decide +kernel⟩, List.mem_of_getElem? (i := 206) (by decide +kernel), List.mem_of_getElem? (i := 765) (by decide +kernel), List.mem_of_getElem? (i := 766) (by decide +kernel)⟩
theorem lw_p29 : lw_okq (⟨"HoarseHill$Asks", "sizeOfAnyPlain", "()I"⟩, 4) := ⟨⟨by decide +kernel, by decide +kernel⟩, List.mem_of_getElem? (i := 206) (by decide +kernel), List.mem_of_getElem? (i := 769) (by decide +kernel), List.mem_of_getElem? (i := 770) (by decide +kernel)⟩
theorem lw_p30 : lw_okq (⟨"HoarseHill$Asks", "plainMark", "()I"⟩, 4) := ⟨⟨by decide +kernel, by decide +kernel⟩, List.mem_of_getElem? (i := 206) (by decide +kernel), List.mem_of_getElem? (i := 773) (by decide +kernel), List.mem_of_getElem? (i := 774) (by decide +kernel)⟩
theorem lw_p31 : lw_okq (⟨"HoarseHill$Asks", "markOfAnyPlain", "()I"⟩, 4) := ⟨⟨by decide +kernel, by decide +kernel⟩, List.mem_of_getElem? (i := 206) (by decide +kernel), List.mem_of_getElem? (i := 777) (by decide +kernel), List.mem_of_getElem? (i := 778) (by decide +kernel)⟩
def lw_privs_2 : List (MethodName × Nat) := [(⟨"HoarseHill$Foretelling", "carriedInOrder", "(II)I"⟩, 3), (⟨"HoarseHill$Foretelling", "give", "(I)I"⟩, 3), (⟨"HoarseHill$Matching", "comesAbout", "(III)I"⟩, 3), (⟨"HoarseHill$Foretelling", "catchColds", "(II)I"⟩, 3), (⟨"HoarseHill$Foretelling", "breathOfAll", "()I"⟩, 3), (⟨"HoarseHill", "imageOf", "(I)LHoarseHill$Hill;"⟩, 13), (⟨"HoarseHill$Asks", "begin", "(I)V"⟩, 4), (⟨"HoarseHill$Asks", "isMild", "()Z"⟩, 4), (⟨"HoarseHill$Asks", "mildSize", "()I"⟩, 4), (⟨"HoarseHill$Asks", "leave", "(I)V"⟩, 4), (⟨"HoarseHill$Asks", "sizeOfAnyMild", "()I"⟩, 4), (⟨"HoarseHill$Asks", "lentSize", "()I"⟩, 4), (⟨"HoarseHill$Asks", "plainSize", "()I"⟩, 4), (⟨"HoarseHill$Asks", "sizeOfAnyPlain", "()I"⟩, 4), (⟨"HoarseHill$Asks", "plainMark", "()I"⟩, 4), (⟨"HoarseHill$Asks", "markOfAnyPlain", "()I"⟩, 4)]
theorem lw_r2 : ∀ q ∈ lw_privs_2, lw_okq q := List.forall_mem_cons.mpr ⟨lw_p16, List.forall_mem_cons.mpr ⟨lw_p17, List.forall_mem_cons.mpr ⟨lw_p18, List.forall_mem_cons.mpr ⟨lw_p19, List.forall_mem_cons.mpr ⟨lw_p20, List.forall_mem_cons.mpr ⟨lw_p21, List.forall_mem_cons.mpr ⟨lw_p22, List.forall_mem_cons.mpr ⟨lw_p23, List.forall_mem_cons.mpr ⟨lw_p24, List.forall_mem_cons.mpr ⟨lw_p25, List.forall_mem_cons.mpr ⟨lw_p26, List.forall_mem_cons.mpr ⟨lw_p27, List.forall_mem_cons.mpr ⟨lw_p28, List.forall_mem_cons.mpr ⟨lw_p29, List.forall_mem_cons.mpr ⟨lw_p30, List.forall_mem_cons.mpr ⟨lw_p31, fun _ h => absurd h List.not_mem_nil⟩⟩⟩⟩⟩⟩⟩⟩⟩⟩⟩⟩⟩⟩⟩⟩
theorem lw_p32 : lw_okq (⟨"HoarseHill$Asks", "lentMark", "()I"⟩, 4) := ⟨⟨by decide +kernel, by decide +kernel⟩, List.mem_of_getElem? (i := 206) (by decide +kernel), List.mem_of_getElem? (i := 781) (by decide +kernel), List.mem_of_getElem? (i := 782) (by decide +kernel)⟩
theorem lw_p33 : lw_okq (⟨"HoarseHill$Asks", "mildMark", "()I"⟩, 4) := ⟨⟨by decide +kernel, by decide +kernel⟩, List.mem_of_getElem? (i := 206) (by decide +kernel), List.mem_of_getElem? (i := 789) (by decide +kernel), List.mem_of_getElem? (i := 790) (by decide +kernel)⟩
theorem lw_p34 : lw_okq (⟨"HoarseHillModel", "find", "(I)I"⟩, 19) := ⟨⟨by decide +kernel, by decide +kernel⟩, List.mem_of_getElem? (i := 814) (by decide +kernel), List.mem_of_getElem? (i := 892) (by decide +kernel), List.mem_of_getElem? (i := 893) (by decide +kernel)⟩
theorem lw_p35 : lw_okq (⟨"HoarseHillModel", "well", "(I)I"⟩, 19) := ⟨⟨by decide +kernel, by decide +kernel⟩, List.mem_of_getElem? (i := 814) (by decide +kernel), List.mem_of_getElem? (i := 897) (by decide +kernel), List.mem_of_getElem? (i := 898) (by decide +kernel)⟩
theorem lw_p36 : lw_okq (⟨"HoarseHillModel", "isSpan", "(III)Z"⟩, 19) := ⟨⟨by decide +kernel, by decide +kernel⟩, List.mem_of_getElem? (i := 814) (by decide +kernel), List.mem_of_getElem? (i := 912) (by decide +kernel), List.mem_of_getElem? (i := 913) (by decide +kernel)⟩
theorem lw_p37 : lw_okq (⟨"HoarseHillModel", "reads", "()Z"⟩, 19) := ⟨⟨by decide +kernel, by decide +kernel⟩, List.mem_of_getElem? (i := 814) (by decide +kernel), List.mem_of_getElem? (i := 930) (by decide +kernel), List.mem_of_getElem? (i := 931) (by decide +kernel)⟩
theorem lw_p38 : lw_okq (⟨"HoarseHillModel", "readsLaw", "()Z"⟩, 19) := ⟨⟨by decide +kernel, by decide +kernel⟩, List.mem_of_getElem? (i := 814) (by decide +kernel), List.mem_of_getElem? (i := 934) (by decide +kernel), List.mem_of_getElem? (i := 935) (by decide +kernel)⟩
theorem lw_p39 : lw_okq (⟨"HoarseHillModel", "sign", "(I)Z"⟩, 19) := ⟨⟨by decide +kernel, by decide +kernel⟩, List.mem_of_getElem? (i := 814) (by decide +kernel), List.mem_of_getElem? (i := 938) (by decide +kernel), List.mem_of_getElem? (i := 939) (by decide +kernel)⟩
theorem lw_p40 : lw_okq (⟨"HoarseHillModel", "isLetter", "(I)Z"⟩, 19) := ⟨⟨by decide +kernel, by decide +kernel⟩, List.mem_of_getElem? (i := 814) (by decide +kernel), List.mem_of_getElem? (i := 942) (by decide +kernel), List.mem_of_getElem? (i := 943) (by decide +kernel)⟩
theorem lw_p41 : lw_okq (⟨"HoarseHillModel", "refuse", "(I)Z"⟩, 19) := ⟨⟨by decide +kernel, by decide +kernel⟩, List.mem_of_getElem? (i := 814) (by decide +kernel), List.mem_of_getElem? (i := 946) (by decide +kernel), List.mem_of_getElem? (i := 947) (by decide +kernel)⟩
theorem lw_p42 : lw_okq (⟨"HoarseHillModel", "readsNumber", "(II)Z"⟩, 19) := ⟨⟨by decide +kernel, by decide +kernel⟩, List.mem_of_getElem? (i := 814) (by decide +kernel), List.mem_of_getElem? (i := 950) (by decide +kernel), List.mem_of_getElem? (i := 951) (by decide +kernel)⟩
theorem lw_p43 : lw_okq (⟨"HoarseHillModel", "isFigure", "(I)Z"⟩, 19) := ⟨⟨by decide +kernel, by decide +kernel⟩, List.mem_of_getElem? (i := 814) (by decide +kernel), List.mem_of_getElem? (i := 954) (by decide +kernel), List.mem_of_getElem? (i := 955) (by decide +kernel)⟩
theorem lw_p44 : lw_okq (⟨"HoarseHillModel", "readsMotion", "()Z"⟩, 19) := ⟨⟨by decide +kernel, by decide +kernel⟩, List.mem_of_getElem? (i := 814) (by decide +kernel), List.mem_of_getElem? (i := 960) (by decide +kernel), List.mem_of_getElem? (i := 961) (by decide +kernel)⟩
theorem lw_p45 : lw_okq (⟨"HoarseHillModel", "isSort", "()Z"⟩, 19) := ⟨⟨by decide +kernel, by decide +kernel⟩, List.mem_of_getElem? (i := 814) (by decide +kernel), List.mem_of_getElem? (i := 964) (by decide +kernel), List.mem_of_getElem? (i := 965) (by decide +kernel)⟩
theorem lw_p46 : lw_okq (⟨"HoarseHillModel", "readsMember", "()Z"⟩, 19) := ⟨⟨by decide +kernel, by decide +kernel⟩, List.mem_of_getElem? (i := 814) (by decide +kernel), List.mem_of_getElem? (i := 971) (by decide +kernel), List.mem_of_getElem? (i := 972) (by decide +kernel)⟩
theorem lw_p47 : lw_okq (⟨"HoarseHillModel", "copyTown", "(II)V"⟩, 19) := ⟨⟨by decide +kernel, by decide +kernel⟩, List.mem_of_getElem? (i := 814) (by decide +kernel), List.mem_of_getElem? (i := 976) (by decide +kernel), List.mem_of_getElem? (i := 977) (by decide +kernel)⟩
def lw_privs_3 : List (MethodName × Nat) := [(⟨"HoarseHill$Asks", "lentMark", "()I"⟩, 4), (⟨"HoarseHill$Asks", "mildMark", "()I"⟩, 4), (⟨"HoarseHillModel", "find", "(I)I"⟩, 19), (⟨"HoarseHillModel", "well", "(I)I"⟩, 19), (⟨"HoarseHillModel", "isSpan", "(III)Z"⟩, 19), (⟨"HoarseHillModel", "reads", "()Z"⟩, 19), (⟨"HoarseHillModel", "readsLaw", "()Z"⟩, 19), (⟨"HoarseHillModel", "sign", "(I)Z"⟩, 19), (⟨"HoarseHillModel", "isLetter", "(I)Z"⟩, 19), (⟨"HoarseHillModel", "refuse", "(I)Z"⟩, 19), (⟨"HoarseHillModel", "readsNumber", "(II)Z"⟩, 19), (⟨"HoarseHillModel", "isFigure", "(I)Z"⟩, 19), (⟨"HoarseHillModel", "readsMotion", "()Z"⟩, 19), (⟨"HoarseHillModel", "isSort", "()Z"⟩, 19), (⟨"HoarseHillModel", "readsMember", "()Z"⟩, 19), (⟨"HoarseHillModel", "copyTown", "(II)V"⟩, 19)]
theorem lw_r3 : ∀ q ∈ lw_privs_3, lw_okq q := List.forall_mem_cons.mpr ⟨lw_p32, List.forall_mem_cons.mpr ⟨lw_p33, List.forall_mem_cons.mpr ⟨lw_p34, List.forall_mem_cons.mpr ⟨lw_p35, List.forall_mem_cons.mpr ⟨lw_p36, List.forall_mem_cons.mpr ⟨lw_p37, List.forall_mem_cons.mpr ⟨lw_p38, List.forall_mem_cons.mpr ⟨lw_p39, List.forall_mem_cons.mpr ⟨lw_p40, List.forall_mem_cons.mpr ⟨lw_p41, List.forall_mem_cons.mpr ⟨lw_p42, List.forall_mem_cons.mpr ⟨lw_p43, List.forall_mem_cons.mpr ⟨lw_p44, List.forall_mem_cons.mpr ⟨lw_p45, List.forall_mem_cons.mpr ⟨lw_p46, List.forall_mem_cons.mpr ⟨lw_p47, fun _ h => absurd h List.not_mem_nil⟩⟩⟩⟩⟩⟩⟩⟩⟩⟩⟩⟩⟩⟩⟩⟩
theorem lw_p48 : lw_okq (⟨"HoarseHillModel", "areMembers", "(I)Z"⟩, 19) := ⟨⟨by decide +kernel, by decide +kernel⟩, List.mem_of_getElem? (i := 814) (by decide +kernel), List.mem_of_getElem? (i := 993) (by decide +kernel), List.mem_of_getElem? (i := 994) (by decide +kernel)⟩
theorem lw_p49 : lw_okq (⟨"HoarseHillModel", "canSpeak", "(I)I"⟩, 19) := ⟨⟨by decide +kernel, by decide +kernel⟩, List.mem_of_getElem? (i := 814) (by decide +kernel), List.mem_of_getElem? (i := 997) (by decide +kernel), List.mem_of_getElem? (i := 998) (by decide +kernel)⟩
theorem lw_p50 : lw_okq (⟨"HoarseHillModel", "costOf", "(II)I"⟩, 19) := ⟨⟨by decide +kernel, by decide +kernel⟩, List.mem_of_getElem? (i := 814) (by decide +kernel), List.mem_of_getElem? (i := 1001) (by decide +kernel), List.mem_of_getElem? (i := 1002) (by decide +kernel)⟩
theorem lw_p51 : lw_okq (⟨"HoarseHillModel", "keepPast", "()V"⟩, 19) := ⟨⟨by decide +kernel, by decide +kernel⟩, List.mem_of_getElem? (i := 814) (by decide +kernel), List.mem_of_getElem? (i := 1008) (by decide +kernel), List.mem_of_getElem? (i := 1009) (by decide +kernel)⟩
theorem lw_p52 : lw_okq (⟨"HoarseHillModel", "pass", "(II)I"⟩, 19) := ⟨⟨by decide +kernel, by decide +kernel⟩, List.mem_of_getElem? (i := 814) (by decide +kernel), List.mem_of_getElem? (i := 1012) (by decide +kernel), List.mem_of_getElem? (i := 1013) (by decide +kernel)⟩
theorem lw_p53 : lw_okq (⟨"HoarseHillModel", "motionOf", "(I)I"⟩, 19) := ⟨⟨by decide +kernel, by decide +kernel⟩, List.mem_of_getElem? (i := 814) (by decide +kernel), List.mem_of_getElem? (i := 1016) (by decide +kernel), List.mem_of_getElem? (i := 1017) (by decide +kernel)⟩
theorem lw_p54 : lw_okq (⟨"HoarseHillModel", "passFor", "(III)I"⟩, 19) := ⟨⟨by decide +kernel, by decide +kernel⟩, List.mem_of_getElem? (i := 814) (by decide +kernel), List.mem_of_getElem? (i := 1020) (by decide +kernel), List.mem_of_getElem? (i := 1021) (by decide +kernel)⟩
theorem lw_p55 : lw_okq (⟨"HoarseHillModel", "weightOf", "(II)I"⟩, 19) := ⟨⟨by decide +kernel, by decide +kernel⟩, List.mem_of_getElem? (i := 814) (by decide +kernel), List.mem_of_getElem? (i := 1024) (by decide +kernel), List.mem_of_getElem? (i := 1025) (by decide +kernel)⟩
theorem lw_p56 : lw_okq (⟨"HoarseHillModel", "weighs", "(II)I"⟩, 19) := ⟨⟨by decide +kernel, by decide +kernel⟩, List.mem_of_getElem? (i := 814) (by decide +kernel), List.mem_of_getElem? (i := 1031) (by decide +kernel), List.mem_of_getElem? (i := 1032) (by decide +kernel)⟩
theorem lw_p57 : lw_okq (⟨"HoarseHillModel", "isMember", "(I)Z"⟩, 19) := ⟨⟨by decide +kernel, by decide +kernel⟩, List.mem_of_getElem? (i := 814) (by decide +kernel), List.mem_of_getElem? (i := 1045) (by decide +kernel), List.mem_of_getElem? (i := 1046) (by decide +kernel)⟩
theorem lw_p58 : lw_okq (⟨"HoarseHillModel", "isMotion", "(I)Z"⟩, 19) := ⟨⟨by decide +kernel, by decide +kernel⟩, List.mem_of_getElem? (i := 814) (by decide +kernel), List.mem_of_getElem? (i := 1058) (by decide +kernel), List.mem_of_getElem? (i := 1059) (by decide +kernel)⟩
theorem lw_p59 : lw_okq (⟨"HoarseHillModel", "isCarried", "(II)Z"⟩, 19) := ⟨⟨by decide +kernel, by decide +kernel⟩, List.mem_of_getElem? (i := 814) (by decide +kernel), List.mem_of_getElem? (i := 1090) (by decide +kernel), List.mem_of_getElem? (i := 1091) (by decide +kernel)⟩
theorem lw_p60 : lw_okq (⟨"HoarseHillModel", "mostCarried", "(I)I"⟩, 19) := ⟨⟨by decide +kernel, by decide +kernel⟩, List.mem_of_getElem? (i := 814) (by decide +kernel), List.mem_of_getElem? (i := 1101) (by decide +kernel), List.mem_of_getElem? (i := 1102) (by decide +kernel)⟩
theorem lw_p61 : lw_okq (⟨"HoarseHillModel", "layTried", "()V"⟩, 19) := ⟨⟨by decide +kernel, by decide +kernel⟩, List.mem_of_getElem? (i := 814) (by decide +kernel), List.mem_of_getElem? (i := 1105) (by decide +kernel), List.mem_of_getElem? (i := 1106) (by decide +kernel)⟩
theorem lw_p62 : lw_okq (⟨"HoarseHillModel", "nextSet", "(II)I"⟩, 19) := ⟨⟨by decide +kernel, by decide +kernel⟩, List.mem_of_getElem? (i := 814) (by decide +kernel), List.mem_of_getElem? (i := 1109) (by decide +kernel), List.mem_of_getElem? (i := 1110) (by decide +kernel)⟩
theorem lw_p63 : lw_okq (⟨"HoarseHillModel", "carriedBy", "(I)I"⟩, 19) := ⟨⟨by decide +kernel, by decide +kernel⟩, List.mem_of_getElem? (i := 814) (by decide +kernel), List.mem_of_getElem? (i := 1117) (by decide +kernel), List.mem_of_getElem? (i := 1118) (by decide +kernel)⟩
def lw_privs_4 : List (MethodName × Nat) := [(⟨"HoarseHillModel", "areMembers", "(I)Z"⟩, 19), (⟨"HoarseHillModel", "canSpeak", "(I)I"⟩, 19), (⟨"HoarseHillModel", "costOf", "(II)I"⟩, 19), (⟨"HoarseHillModel", "keepPast", "()V"⟩, 19), (⟨"HoarseHillModel", "pass", "(II)I"⟩, 19), (⟨"HoarseHillModel", "motionOf", "(I)I"⟩, 19), (⟨"HoarseHillModel", "passFor", "(III)I"⟩, 19), (⟨"HoarseHillModel", "weightOf", "(II)I"⟩, 19), (⟨"HoarseHillModel", "weighs", "(II)I"⟩, 19), (⟨"HoarseHillModel", "isMember", "(I)Z"⟩, 19), (⟨"HoarseHillModel", "isMotion", "(I)Z"⟩, 19), (⟨"HoarseHillModel", "isCarried", "(II)Z"⟩, 19), (⟨"HoarseHillModel", "mostCarried", "(I)I"⟩, 19), (⟨"HoarseHillModel", "layTried", "()V"⟩, 19), (⟨"HoarseHillModel", "nextSet", "(II)I"⟩, 19), (⟨"HoarseHillModel", "carriedBy", "(I)I"⟩, 19)]
theorem lw_r4 : ∀ q ∈ lw_privs_4, lw_okq q := List.forall_mem_cons.mpr ⟨lw_p48, List.forall_mem_cons.mpr ⟨lw_p49, List.forall_mem_cons.mpr ⟨lw_p50, List.forall_mem_cons.mpr ⟨lw_p51, List.forall_mem_cons.mpr ⟨lw_p52, List.forall_mem_cons.mpr ⟨lw_p53, List.forall_mem_cons.mpr ⟨lw_p54, List.forall_mem_cons.mpr ⟨lw_p55, List.forall_mem_cons.mpr ⟨lw_p56, List.forall_mem_cons.mpr ⟨lw_p57, List.forall_mem_cons.mpr ⟨lw_p58, List.forall_mem_cons.mpr ⟨lw_p59, List.forall_mem_cons.mpr ⟨lw_p60, List.forall_mem_cons.mpr ⟨lw_p61, List.forall_mem_cons.mpr ⟨lw_p62, List.forall_mem_cons.mpr ⟨lw_p63, fun _ h => absurd h List.not_mem_nil⟩⟩⟩⟩⟩⟩⟩⟩⟩⟩⟩⟩⟩⟩⟩⟩
theorem lw_p64 : lw_okq (⟨"HoarseHillModel", "lozengesIn", "(I)I"⟩, 19) := ⟨⟨by decide +kernel, by decide +kernel⟩, List.mem_of_getElem? (i := 814) (by decide +kernel), List.mem_of_getElem? (i := 1125) (by decide +kernel), List.mem_of_getElem? (i := 1126) (by decide +kernel)⟩
theorem lw_p65 : lw_okq (⟨"HoarseHillModel", "gets", "(II)I"⟩, 19) := ⟨⟨by decide +kernel, by decide +kernel⟩, List.mem_of_getElem? (i := 814) (by decide +kernel), List.mem_of_getElem? (i := 1129) (by decide +kernel), List.mem_of_getElem? (i := 1130) (by decide +kernel)⟩
theorem lw_p66 : lw_okq (⟨"HoarseHillModel", "turns", "(I)Z"⟩, 19) := ⟨⟨by decide +kernel, by decide +kernel⟩, List.mem_of_getElem? (i := 814) (by decide +kernel), List.mem_of_getElem? (i := 1133) (by decide +kernel), List.mem_of_getElem? (i := 1134) (by decide +kernel)⟩
theorem lw_p67 : lw_okq (⟨"HoarseHillModel", "passAll", "(I)I"⟩, 19) := ⟨⟨by decide +kernel, by decide +kernel⟩, List.mem_of_getElem? (i := 814) (by decide +kernel), List.mem_of_getElem? (i := 1142) (by decide +kernel), List.mem_of_getElem? (i := 1143) (by decide +kernel)⟩
theorem lw_p68 : lw_okq (⟨"HoarseHillModel", "noItems", "(III)I"⟩, 19) := ⟨⟨by decide +kernel, by decide +kernel⟩, List.mem_of_getElem? (i := 814) (by decide +kernel), List.mem_of_getElem? (i := 1155) (by decide +kernel), List.mem_of_getElem? (i := 1156) (by decide +kernel)⟩
theorem lw_p69 : lw_okq (⟨"HoarseHillModel", "isSo", "(IIIII)Z"⟩, 19) := ⟨⟨by decide +kernel, by decide +kernel⟩, List.mem_of_getElem? (i := 814) (by decide +kernel), List.mem_of_getElem? (i := 1159) (by decide +kernel), List.mem_of_getElem? (i := 1160) (by decide +kernel)⟩
theorem lw_p70 : lw_okq (⟨"HoarseHillModel", "isOf", "(II)Z"⟩, 19) := ⟨⟨by decide +kernel, by decide +kernel⟩, List.mem_of_getElem? (i := 814) (by decide +kernel), List.mem_of_getElem? (i := 1198) (by decide +kernel), List.mem_of_getElem? (i := 1199) (by decide +kernel)⟩
theorem lw_p71 : lw_okq (⟨"HoarseHillModel", "sizeOf", "(I)I"⟩, 19) := ⟨⟨by decide +kernel, by decide +kernel⟩, List.mem_of_getElem? (i := 814) (by decide +kernel), List.mem_of_getElem? (i := 1206) (by decide +kernel), List.mem_of_getElem? (i := 1207) (by decide +kernel)⟩
theorem lw_p72 : lw_okq (⟨"HoarseHillModel", "begin", "(I)V"⟩, 19) := ⟨⟨by decide +kernel, by decide +kernel⟩, List.mem_of_getElem? (i := 814) (by decide +kernel), List.mem_of_getElem? (i := 1210) (by decide +kernel), List.mem_of_getElem? (i := 1211) (by decide +kernel)⟩
theorem lw_p73 : lw_okq (⟨"HoarseHillModel", "plainSize", "(I)I"⟩, 19) := ⟨⟨by decide +kernel, by decide +kernel⟩, List.mem_of_getElem? (i := 814) (by decide +kernel), List.mem_of_getElem? (i := 1214) (by decide +kernel), List.mem_of_getElem? (i := 1215) (by decide +kernel)⟩
theorem lw_p74 : lw_okq (⟨"HoarseHillModel", "lentSize", "(I)I"⟩, 19) := ⟨⟨by decide +kernel, by decide +kernel⟩, List.mem_of_getElem? (i := 814) (by decide +kernel), List.mem_of_getElem? (i := 1218) (by decide +kernel), List.mem_of_getElem? (i := 1219) (by decide +kernel)⟩
theorem lw_p75 : lw_okq (⟨"HoarseHillModel", "mark", "(I)I"⟩, 19) := ⟨⟨by decide +kernel, by decide +kernel⟩, List.mem_of_getElem? (i := 814) (by decide +kernel), List.mem_of_getElem? (i := 1222) (by decide +kernel), List.mem_of_getElem? (i := 1223) (by decide +kernel)⟩
theorem lw_p76 : lw_okq (⟨"HoarseHillModel", "plainMark", "(I)I"⟩, 19) := ⟨⟨by decide +kernel, by decide +kernel⟩, List.mem_of_getElem? (i := 814) (by decide +kernel), List.mem_of_getElem? (i := 1226) (by decide +kernel), List.mem_of_getElem? (i := 1227) (by decide +kernel)⟩
theorem lw_p77 : lw_okq (⟨"HoarseHillModel", "lentMark", "(I)I"⟩, 19) := ⟨⟨by decide +kernel, by decide +kernel⟩, List.mem_of_getElem? (i := 814) (by decide +kernel), List.mem_of_getElem? (i := 1230) (by decide +kernel), List.mem_of_getElem? (i := 1231) (by decide +kernel)⟩
theorem lw_p78 : lw_okq (⟨"HoarseHillModel", "mildSize", "(I)I"⟩, 19) := ⟨⟨by decide +kernel, by decide +kernel⟩, List.mem_of_getElem? (i := 814) (by decide +kernel), List.mem_of_getElem? (i := 1234) (by decide +kernel), List.mem_of_getElem? (i := 1235) (by decide +kernel)⟩
theorem lw_p79 : lw_okq (⟨"HoarseHillModel", "mildMark", "(I)I"⟩, 19) := ⟨⟨by decide +kernel, by decide +kernel⟩, List.mem_of_getElem? (i := 814) (by decide +kernel), List.mem_of_getElem? (i := 1238) (by decide +kernel), List.mem_of_getElem? (i := 1239) (by decide +kernel)⟩
def lw_privs_5 : List (MethodName × Nat) := [(⟨"HoarseHillModel", "lozengesIn", "(I)I"⟩, 19), (⟨"HoarseHillModel", "gets", "(II)I"⟩, 19), (⟨"HoarseHillModel", "turns", "(I)Z"⟩, 19), (⟨"HoarseHillModel", "passAll", "(I)I"⟩, 19), (⟨"HoarseHillModel", "noItems", "(III)I"⟩, 19), (⟨"HoarseHillModel", "isSo", "(IIIII)Z"⟩, 19), (⟨"HoarseHillModel", "isOf", "(II)Z"⟩, 19), (⟨"HoarseHillModel", "sizeOf", "(I)I"⟩, 19), (⟨"HoarseHillModel", "begin", "(I)V"⟩, 19), (⟨"HoarseHillModel", "plainSize", "(I)I"⟩, 19), (⟨"HoarseHillModel", "lentSize", "(I)I"⟩, 19), (⟨"HoarseHillModel", "mark", "(I)I"⟩, 19), (⟨"HoarseHillModel", "plainMark", "(I)I"⟩, 19), (⟨"HoarseHillModel", "lentMark", "(I)I"⟩, 19), (⟨"HoarseHillModel", "mildSize", "(I)I"⟩, 19), (⟨"HoarseHillModel", "mildMark", "(I)I"⟩, 19)]
theorem lw_r5 : ∀ q ∈ lw_privs_5, lw_okq q := List.forall_mem_cons.mpr ⟨lw_p64, List.forall_mem_cons.mpr ⟨lw_p65, List.forall_mem_cons.mpr ⟨lw_p66, List.forall_mem_cons.mpr ⟨lw_p67, List.forall_mem_cons.mpr ⟨lw_p68, List.forall_mem_cons.mpr ⟨lw_p69, List.forall_mem_cons.mpr ⟨lw_p70, List.forall_mem_cons.mpr ⟨lw_p71, List.forall_mem_cons.mpr ⟨lw_p72, List.forall_mem_cons.mpr ⟨lw_p73, List.forall_mem_cons.mpr ⟨lw_p74, List.forall_mem_cons.mpr ⟨lw_p75, List.forall_mem_cons.mpr ⟨lw_p76, List.forall_mem_cons.mpr ⟨lw_p77, List.forall_mem_cons.mpr ⟨lw_p78, List.forall_mem_cons.mpr ⟨lw_p79, fun _ h => absurd h List.not_mem_nil⟩⟩⟩⟩⟩⟩⟩⟩⟩⟩⟩⟩⟩⟩⟩⟩
def lw_privs : List (MethodName × Nat) := lw_privs_1 ++ (lw_privs_2 ++ (lw_privs_3 ++ (lw_privs_4 ++ (lw_privs_5))))
def lw_tbl : List Cond := k2_sels lw_privs ++ tables_1
theorem lw_privs_ok : ∀ q ∈ lw_privs, lw_okq q := by
  show ∀ q ∈ lw_privs_1 ++ (lw_privs_2 ++ (lw_privs_3 ++ (lw_privs_4 ++ (lw_privs_5)))), lw_okq q
  exact List.forall_mem_append.mpr ⟨lw_r1, List.forall_mem_append.mpr ⟨lw_r2, List.forall_mem_append.mpr ⟨lw_r3, List.forall_mem_append.mpr ⟨lw_r4, lw_r5⟩⟩⟩⟩
-- ===== end of PART A; then your names; then what follows =====
/-! ===== BEGIN printed: names, fields, word lists, decode rows ===== -/
def RX0 : String := "HoarseHill$Acts"
def TX0 : u_T := fun k => match k with
  | 0 => ("HoarseHill$Acts", "before", "[I", true)
  | 1 => ("HoarseHill$Acts", "kept", "I", false)
  | _ => ("HoarseHill$Acts", "next", "I", false)
def tyX0 : Nat → FieldType := fun k => match k with
  | 0 => .array .int
  | 1 => .int
  | _ => .int
abbrev wsX00 : List Cond := u_ws RX0 TX0 3
theorem nmX0 : ∀ a, a < 3 → ∀ b, b < 3 → a ≠ b → (TX0 a).2.1 ≠ (TX0 b).2.1 := by decide +kernel
theorem tyX0_ok : ∀ k, k < 3 → parseFieldDescriptor (TX0 k).2.2.1 = some (tyX0 k) := by decide +kernel
abbrev cX0_init : ByteArray := prog_2_method_1_code
def yX0_init : MethodName := ⟨RX0, "<init>", "()V"⟩
abbrev cX0_forget : ByteArray := prog_2_method_2_code
def yX0_forget : MethodName := ⟨RX0, "forget", "()V"⟩
abbrev cX0_keep : ByteArray := prog_2_method_3_code
def yX0_keep : MethodName := ⟨RX0, "keep", "(LHoarseHill$Hill;)V"⟩
abbrev cX0_giveBack : ByteArray := prog_2_method_4_code
def yX0_giveBack : MethodName := ⟨RX0, "giveBack", "(LHoarseHill$Hill;)V"⟩
def RX1 : String := "HoarseHill$Asks"
def TX1 : u_T := fun k => match k with
  | 0 => ("HoarseHill$Asks", "now", "LHoarseHill$Hill;", true)
  | 1 => ("HoarseHill$Asks", "left", "[I", true)
  | 2 => ("HoarseHill$Asks", "leftCount", "I", false)
  | _ => ("HoarseHill$Asks", "asked", "I", false)
def tyX1 : Nat → FieldType := fun k => match k with
  | 0 => .object "HoarseHill$Hill"
  | 1 => .array .int
  | 2 => .int
  | _ => .int
abbrev wsX10 : List Cond := u_ws RX1 TX1 4
theorem nmX1 : ∀ a, a < 4 → ∀ b, b < 4 → a ≠ b → (TX1 a).2.1 ≠ (TX1 b).2.1 := by decide +kernel
theorem tyX1_ok : ∀ k, k < 4 → parseFieldDescriptor (TX1 k).2.2.1 = some (tyX1 k) := by decide +kernel
abbrev cX1_init : ByteArray := prog_3_method_1_code
def yX1_init : MethodName := ⟨RX1, "<init>", "(LHoarseHill$Hill;)V"⟩
abbrev cX1_sizeOf : ByteArray := prog_3_method_2_code
def yX1_sizeOf : MethodName := ⟨RX1, "sizeOf", "(I)I"⟩
abbrev cX1_markOf : ByteArray := prog_3_method_3_code
def yX1_markOf : MethodName := ⟨RX1, "markOf", "(I)I"⟩
abbrev cX1_traceAt : ByteArray := prog_3_method_4_code
def yX1_traceAt : MethodName := ⟨RX1, "traceAt", "(I)I"⟩
abbrev cX1_begin : ByteArray := prog_3_method_5_code
def yX1_begin : MethodName := ⟨RX1, "begin", "(I)V"⟩
abbrev cX1_leave : ByteArray := prog_3_method_6_code
def yX1_leave : MethodName := ⟨RX1, "leave", "(I)V"⟩
abbrev cX1_isMild : ByteArray := prog_3_method_7_code
def yX1_isMild : MethodName := ⟨RX1, "isMild", "()Z"⟩
abbrev cX1_lentSize : ByteArray := prog_3_method_8_code
def yX1_lentSize : MethodName := ⟨RX1, "lentSize", "()I"⟩
abbrev cX1_lentMark : ByteArray := prog_3_method_9_code
def yX1_lentMark : MethodName := ⟨RX1, "lentMark", "()I"⟩
abbrev cX1_plainSize : ByteArray := prog_3_method_10_code
def yX1_plainSize : MethodName := ⟨RX1, "plainSize", "()I"⟩
abbrev cX1_sizeOfAnyPlain : ByteArray := prog_3_method_11_code
def yX1_sizeOfAnyPlain : MethodName := ⟨RX1, "sizeOfAnyPlain", "()I"⟩
abbrev cX1_plainMark : ByteArray := prog_3_method_12_code
def yX1_plainMark : MethodName := ⟨RX1, "plainMark", "()I"⟩
abbrev cX1_markOfAnyPlain : ByteArray := prog_3_method_13_code
def yX1_markOfAnyPlain : MethodName := ⟨RX1, "markOfAnyPlain", "()I"⟩
abbrev cX1_mildSize : ByteArray := prog_3_method_14_code
def yX1_mildSize : MethodName := ⟨RX1, "mildSize", "()I"⟩
abbrev cX1_sizeOfAnyMild : ByteArray := prog_3_method_15_code
def yX1_sizeOfAnyMild : MethodName := ⟨RX1, "sizeOfAnyMild", "()I"⟩
abbrev cX1_mildMark : ByteArray := prog_3_method_16_code
def yX1_mildMark : MethodName := ⟨RX1, "mildMark", "()I"⟩
def RX2 : String := "HoarseHill$Foretelling"
def TX2 : u_T := fun k => match k with
  | 0 => ("HoarseHill$Foretelling", "now", "LHoarseHill$Hill;", true)
  | 1 => ("HoarseHill$Foretelling", "told", "LHoarseHill$Hill;", true)
  | _ => ("HoarseHill$Foretelling", "saidOn", "[I", true)
def tyX2 : Nat → FieldType := fun k => match k with
  | 0 => .object "HoarseHill$Hill"
  | 1 => .object "HoarseHill$Hill"
  | _ => .array .int
abbrev wsX20 : List Cond := u_ws RX2 TX2 3
theorem nmX2 : ∀ a, a < 3 → ∀ b, b < 3 → a ≠ b → (TX2 a).2.1 ≠ (TX2 b).2.1 := by decide +kernel
theorem tyX2_ok : ∀ k, k < 3 → parseFieldDescriptor (TX2 k).2.2.1 = some (tyX2 k) := by decide +kernel
abbrev cX2_init : ByteArray := prog_4_method_1_code
def yX2_init : MethodName := ⟨RX2, "<init>", "(LHoarseHill$Hill;LHoarseHill$Hill;)V"⟩
abbrev cX2_powerOf : ByteArray := prog_4_method_2_code
def yX2_powerOf : MethodName := ⟨RX2, "powerOf", "(II)I"⟩
abbrev cX2_ordersOf : ByteArray := prog_4_method_3_code
def yX2_ordersOf : MethodName := ⟨RX2, "ordersOf", "(I)I"⟩
abbrev cX2_fewestSpeakers : ByteArray := prog_4_method_4_code
def yX2_fewestSpeakers : MethodName := ⟨RX2, "fewestSpeakers", "(I)I"⟩
abbrev cX2_bestAgenda : ByteArray := prog_4_method_5_code
def yX2_bestAgenda : MethodName := ⟨RX2, "bestAgenda", "(I)I"⟩
abbrev cX2_digit : ByteArray := prog_4_method_6_code
def yX2_digit : MethodName := ⟨RX2, "digit", "(III)I"⟩
abbrev cX2_isOrder : ByteArray := prog_4_method_7_code
def yX2_isOrder : MethodName := ⟨RX2, "isOrder", "(II)Z"⟩
abbrev cX2_carriedInOrder : ByteArray := prog_4_method_8_code
def yX2_carriedInOrder : MethodName := ⟨RX2, "carriedInOrder", "(II)I"⟩
abbrev cX2_fewestLozenges : ByteArray := prog_4_method_9_code
def yX2_fewestLozenges : MethodName := ⟨RX2, "fewestLozenges", "(I)I"⟩
abbrev cX2_give : ByteArray := prog_4_method_10_code
def yX2_give : MethodName := ⟨RX2, "give", "(I)I"⟩
abbrev cX2_breathLater : ByteArray := prog_4_method_11_code
def yX2_breathLater : MethodName := ⟨RX2, "breathLater", "(II)I"⟩
abbrev cX2_carriedLater : ByteArray := prog_4_method_12_code
def yX2_carriedLater : MethodName := ⟨RX2, "carriedLater", "(I)I"⟩
abbrev cX2_carriedInColds : ByteArray := prog_4_method_13_code
def yX2_carriedInColds : MethodName := ⟨RX2, "carriedInColds", "(II)I"⟩
abbrev cX2_catchColds : ByteArray := prog_4_method_14_code
def yX2_catchColds : MethodName := ⟨RX2, "catchColds", "(II)I"⟩
abbrev cX2_sessions : ByteArray := prog_4_method_15_code
def yX2_sessions : MethodName := ⟨RX2, "sessions", "(III)I"⟩
abbrev cX2_breathOfAll : ByteArray := prog_4_method_16_code
def yX2_breathOfAll : MethodName := ⟨RX2, "breathOfAll", "()I"⟩
def RX3 : String := "HoarseHill$Hill"
def TX3 : u_T := fun k => match k with
  | 0 => ("HoarseHill$Hill", "stands", "Z", false)
  | 1 => ("HoarseHill$Hill", "cost", "I", false)
  | 2 => ("HoarseHill$Hill", "motions", "I", false)
  | 3 => ("HoarseHill$Hill", "members", "I", false)
  | 4 => ("HoarseHill$Hill", "day", "I", false)
  | 5 => ("HoarseHill$Hill", "carriedInAll", "I", false)
  | 6 => ("HoarseHill$Hill", "needs", "[I", true)
  | 7 => ("HoarseHill$Hill", "kinds", "[I", true)
  | 8 => ("HoarseHill$Hill", "breaths", "[I", true)
  | _ => ("HoarseHill$Hill", "mends", "[I", true)
def tyX3 : Nat → FieldType := fun k => match k with
  | 0 => .boolean
  | 1 => .int
  | 2 => .int
  | 3 => .int
  | 4 => .int
  | 5 => .int
  | 6 => .array .int
  | 7 => .array .int
  | 8 => .array .int
  | _ => .array .int
abbrev wsX30 : List Cond := u_ws RX3 TX3 10
theorem nmX3 : ∀ a, a < 10 → ∀ b, b < 10 → a ≠ b → (TX3 a).2.1 ≠ (TX3 b).2.1 := by decide +kernel
theorem tyX3_ok : ∀ k, k < 10 → parseFieldDescriptor (TX3 k).2.2.1 = some (tyX3 k) := by decide +kernel
abbrev cX3_init : ByteArray := prog_5_method_1_code
def yX3_init : MethodName := ⟨RX3, "<init>", "()V"⟩
abbrev cX3_clear : ByteArray := prog_5_method_2_code
def yX3_clear : MethodName := ⟨RX3, "clear", "()V"⟩
abbrev cX3_become : ByteArray := prog_5_method_3_code
def yX3_become : MethodName := ⟨RX3, "become", "(LHoarseHill$Hill;)V"⟩
abbrev cX3_hasMember : ByteArray := prog_5_method_4_code
def yX3_hasMember : MethodName := ⟨RX3, "hasMember", "(I)Z"⟩
abbrev cX3_hasMotion : ByteArray := prog_5_method_5_code
def yX3_hasMotion : MethodName := ⟨RX3, "hasMotion", "(I)Z"⟩
abbrev cX3_isSet : ByteArray := prog_5_method_6_code
def yX3_isSet : MethodName := ⟨RX3, "isSet", "(I)Z"⟩
abbrev cX3_addMotion : ByteArray := prog_5_method_7_code
def yX3_addMotion : MethodName := ⟨RX3, "addMotion", "(I)V"⟩
abbrev cX3_addMember : ByteArray := prog_5_method_8_code
def yX3_addMember : MethodName := ⟨RX3, "addMember", "(III)V"⟩
abbrev cX3_costOf : ByteArray := prog_5_method_9_code
def yX3_costOf : MethodName := ⟨RX3, "costOf", "(I)I"⟩
abbrev cX3_ableSet : ByteArray := prog_5_method_10_code
def yX3_ableSet : MethodName := ⟨RX3, "ableSet", "()I"⟩
abbrev cX3_weighs : ByteArray := prog_5_method_11_code
def yX3_weighs : MethodName := ⟨RX3, "weighs", "(II)I"⟩
abbrev cX3_weighsSet : ByteArray := prog_5_method_12_code
def yX3_weighsSet : MethodName := ⟨RX3, "weighsSet", "(II)I"⟩
abbrev cX3_needToday : ByteArray := prog_5_method_13_code
def yX3_needToday : MethodName := ⟨RX3, "needToday", "()I"⟩
abbrev cX3_isCarriedBy : ByteArray := prog_5_method_14_code
def yX3_isCarriedBy : MethodName := ⟨RX3, "isCarriedBy", "(II)Z"⟩
abbrev cX3_isCarriedByAll : ByteArray := prog_5_method_15_code
def yX3_isCarriedByAll : MethodName := ⟨RX3, "isCarriedByAll", "()Z"⟩
abbrev cX3_passDay : ByteArray := prog_5_method_16_code
def yX3_passDay : MethodName := ⟨RX3, "passDay", "(II)I"⟩
abbrev cX3_passDays : ByteArray := prog_5_method_17_code
def yX3_passDays : MethodName := ⟨RX3, "passDays", "(I)I"⟩
def RX4 : String := "HoarseHill$Matching"
def TX4 : u_T := fun k => match k with
  | 0 => ("HoarseHill$Matching", "now", "LHoarseHill$Hill;", true)
  | 1 => ("HoarseHill$Matching", "told", "LHoarseHill$Hill;", true)
  | _ => ("HoarseHill$Matching", "rows", "LHoarseHill$Rows;", true)
def tyX4 : Nat → FieldType := fun k => match k with
  | 0 => .object "HoarseHill$Hill"
  | 1 => .object "HoarseHill$Hill"
  | _ => .object "HoarseHill$Rows"
abbrev wsX40 : List Cond := u_ws RX4 TX4 3
theorem nmX4 : ∀ a, a < 3 → ∀ b, b < 3 → a ≠ b → (TX4 a).2.1 ≠ (TX4 b).2.1 := by decide +kernel
theorem tyX4_ok : ∀ k, k < 3 → parseFieldDescriptor (TX4 k).2.2.1 = some (tyX4 k) := by decide +kernel
abbrev cX4_init : ByteArray := prog_6_method_1_code
def yX4_init : MethodName := ⟨RX4, "<init>", "(LHoarseHill$Hill;LHoarseHill$Hill;LHoarseHill$Rows;)V"⟩
abbrev cX4_breathsOf : ByteArray := prog_6_method_2_code
def yX4_breathsOf : MethodName := ⟨RX4, "breathsOf", "(IIII)I"⟩
abbrev cX4_sortsOf : ByteArray := prog_6_method_3_code
def yX4_sortsOf : MethodName := ⟨RX4, "sortsOf", "(IIII)I"⟩
abbrev cX4_costsOf : ByteArray := prog_6_method_4_code
def yX4_costsOf : MethodName := ⟨RX4, "costsOf", "(III)I"⟩
abbrev cX4_comesAbout : ByteArray := prog_6_method_5_code
def yX4_comesAbout : MethodName := ⟨RX4, "comesAbout", "(III)I"⟩
def RX5 : String := "HoarseHill$Planning"
def TX5 : u_T := fun k => match k with
  | 0 => ("HoarseHill$Planning", "now", "LHoarseHill$Hill;", true)
  | 1 => ("HoarseHill$Planning", "told", "LHoarseHill$Hill;", true)
  | 2 => ("HoarseHill$Planning", "breathsAhead", "[I", true)
  | 3 => ("HoarseHill$Planning", "path", "[I", true)
  | 4 => ("HoarseHill$Planning", "best", "[I", true)
  | 5 => ("HoarseHill$Planning", "days", "I", false)
  | _ => ("HoarseHill$Planning", "most", "I", false)
def tyX5 : Nat → FieldType := fun k => match k with
  | 0 => .object "HoarseHill$Hill"
  | 1 => .object "HoarseHill$Hill"
  | 2 => .array .int
  | 3 => .array .int
  | 4 => .array .int
  | 5 => .int
  | _ => .int
abbrev wsX50 : List Cond := u_ws RX5 TX5 7
theorem nmX5 : ∀ a, a < 7 → ∀ b, b < 7 → a ≠ b → (TX5 a).2.1 ≠ (TX5 b).2.1 := by decide +kernel
theorem tyX5_ok : ∀ k, k < 7 → parseFieldDescriptor (TX5 k).2.2.1 = some (tyX5 k) := by decide +kernel
abbrev cX5_init : ByteArray := prog_7_method_1_code
def yX5_init : MethodName := ⟨RX5, "<init>", "(LHoarseHill$Hill;LHoarseHill$Hill;)V"⟩
abbrev cX5_bestDays : ByteArray := prog_7_method_2_code
def yX5_bestDays : MethodName := ⟨RX5, "bestDays", "(II)I"⟩
abbrev cX5_tryDay : ByteArray := prog_7_method_3_code
def yX5_tryDay : MethodName := ⟨RX5, "tryDay", "(II)V"⟩
abbrev cX5_closePlan : ByteArray := prog_7_method_4_code
def yX5_closePlan : MethodName := ⟨RX5, "closePlan", "(II)V"⟩
abbrev cX5_takePath : ByteArray := prog_7_method_5_code
def yX5_takePath : MethodName := ⟨RX5, "takePath", "(II)V"⟩
abbrev cX5_keepBreaths : ByteArray := prog_7_method_6_code
def yX5_keepBreaths : MethodName := ⟨RX5, "keepBreaths", "(I)V"⟩
abbrev cX5_giveBreathsBack : ByteArray := prog_7_method_7_code
def yX5_giveBreathsBack : MethodName := ⟨RX5, "giveBreathsBack", "(I)V"⟩
def RX6 : String := "HoarseHill$Rows"
def TX6 : u_T := fun k => match k with
  | 0 => ("HoarseHill$Rows", "lanes", "[I", true)
  | 1 => ("HoarseHill$Rows", "lengths", "[I", true)
  | _ => ("HoarseHill$Rows", "items", "[I", true)
def tyX6 : Nat → FieldType := fun k => match k with
  | 0 => .array .int
  | 1 => .array .int
  | _ => .array .int
abbrev wsX60 : List Cond := u_ws RX6 TX6 3
theorem nmX6 : ∀ a, a < 3 → ∀ b, b < 3 → a ≠ b → (TX6 a).2.1 ≠ (TX6 b).2.1 := by decide +kernel
theorem tyX6_ok : ∀ k, k < 3 → parseFieldDescriptor (TX6 k).2.2.1 = some (tyX6 k) := by decide +kernel
abbrev cX6_init : ByteArray := prog_8_method_1_code
def yX6_init : MethodName := ⟨RX6, "<init>", "()V"⟩
abbrev cX6_isRow : ByteArray := prog_8_method_2_code
def yX6_isRow : MethodName := ⟨RX6, "isRow", "(I)Z"⟩
abbrev cX6_isMissing : ByteArray := prog_8_method_3_code
def yX6_isMissing : MethodName := ⟨RX6, "isMissing", "(I)Z"⟩
abbrev cX6_sameLane : ByteArray := prog_8_method_4_code
def yX6_sameLane : MethodName := ⟨RX6, "sameLane", "(II)Z"⟩
abbrev cX6_hasPlaces : ByteArray := prog_8_method_5_code
def yX6_hasPlaces : MethodName := ⟨RX6, "hasPlaces", "(III)Z"⟩
abbrev cX6_present : ByteArray := prog_8_method_6_code
def yX6_present : MethodName := ⟨RX6, "present", "()I"⟩
abbrev cX6_make : ByteArray := prog_8_method_7_code
def yX6_make : MethodName := ⟨RX6, "make", "(III)V"⟩
abbrev cX6_item : ByteArray := prog_8_method_8_code
def yX6_item : MethodName := ⟨RX6, "item", "(II)I"⟩
abbrev cX6_put : ByteArray := prog_8_method_9_code
def yX6_put : MethodName := ⟨RX6, "put", "(III)I"⟩
abbrev cX6_move : ByteArray := prog_8_method_10_code
def yX6_move : MethodName := ⟨RX6, "move", "(IIIII)V"⟩
abbrev cX6_lose : ByteArray := prog_8_method_11_code
def yX6_lose : MethodName := ⟨RX6, "lose", "(I)I"⟩
def RX7 : String := "HoarseHill$Tape"
def TX7 : u_T := fun k => match k with
  | 0 => ("HoarseHill$Tape", "letters", "[I", true)
  | 1 => ("HoarseHill$Tape", "length", "I", false)
  | 2 => ("HoarseHill$Tape", "position", "I", false)
  | _ => ("HoarseHill$Tape", "fault", "I", false)
def tyX7 : Nat → FieldType := fun k => match k with
  | 0 => .array .int
  | 1 => .int
  | 2 => .int
  | _ => .int
abbrev wsX70 : List Cond := u_ws RX7 TX7 4
theorem nmX7 : ∀ a, a < 4 → ∀ b, b < 4 → a ≠ b → (TX7 a).2.1 ≠ (TX7 b).2.1 := by decide +kernel
theorem tyX7_ok : ∀ k, k < 4 → parseFieldDescriptor (TX7 k).2.2.1 = some (tyX7 k) := by decide +kernel
abbrev cX7_init : ByteArray := prog_9_method_1_code
def yX7_init : MethodName := ⟨RX7, "<init>", "()V"⟩
abbrev cX7_isFull : ByteArray := prog_9_method_2_code
def yX7_isFull : MethodName := ⟨RX7, "isFull", "()Z"⟩
abbrev cX7_append : ByteArray := prog_9_method_3_code
def yX7_append : MethodName := ⟨RX7, "append", "(I)I"⟩
abbrev cX7_empty : ByteArray := prog_9_method_4_code
def yX7_empty : MethodName := ⟨RX7, "empty", "()V"⟩
abbrev cX7_readInto : ByteArray := prog_9_method_5_code
def yX7_readInto : MethodName := ⟨RX7, "readInto", "(LHoarseHill$Hill;)V"⟩
abbrev cX7_readLaw : ByteArray := prog_9_method_6_code
def yX7_readLaw : MethodName := ⟨RX7, "readLaw", "(LHoarseHill$Hill;)V"⟩
abbrev cX7_readMotions : ByteArray := prog_9_method_7_code
def yX7_readMotions : MethodName := ⟨RX7, "readMotions", "(LHoarseHill$Hill;)V"⟩
abbrev cX7_readMotion : ByteArray := prog_9_method_8_code
def yX7_readMotion : MethodName := ⟨RX7, "readMotion", "(LHoarseHill$Hill;)V"⟩
abbrev cX7_readMembers : ByteArray := prog_9_method_9_code
def yX7_readMembers : MethodName := ⟨RX7, "readMembers", "(LHoarseHill$Hill;)V"⟩
abbrev cX7_readMember : ByteArray := prog_9_method_10_code
def yX7_readMember : MethodName := ⟨RX7, "readMember", "(LHoarseHill$Hill;)V"⟩
abbrev cX7_letterAt : ByteArray := prog_9_method_11_code
def yX7_letterAt : MethodName := ⟨RX7, "letterAt", "(I)I"⟩
abbrev cX7_take : ByteArray := prog_9_method_12_code
def yX7_take : MethodName := ⟨RX7, "take", "(I)V"⟩
abbrev cX7_takeNumber : ByteArray := prog_9_method_13_code
def yX7_takeNumber : MethodName := ⟨RX7, "takeNumber", "(II)I"⟩
abbrev cX7_figuresAt : ByteArray := prog_9_method_14_code
def yX7_figuresAt : MethodName := ⟨RX7, "figuresAt", "(I)I"⟩
abbrev cX7_isFigure : ByteArray := prog_9_method_15_code
def yX7_isFigure : MethodName := ⟨RX7, "isFigure", "(I)Z"⟩
abbrev cX7_sortOf : ByteArray := prog_9_method_16_code
def yX7_sortOf : MethodName := ⟨RX7, "sortOf", "(I)I"⟩
def RX8 : String := "HoarseHill"
def TX8 : u_T := fun k => match k with
  | 0 => ("HoarseHill", "rows", "LHoarseHill$Rows;", true)
  | 1 => ("HoarseHill", "tape", "LHoarseHill$Tape;", true)
  | 2 => ("HoarseHill", "now", "LHoarseHill$Hill;", true)
  | 3 => ("HoarseHill", "draft", "LHoarseHill$Hill;", true)
  | 4 => ("HoarseHill", "firstImage", "LHoarseHill$Hill;", true)
  | 5 => ("HoarseHill", "secondImage", "LHoarseHill$Hill;", true)
  | 6 => ("HoarseHill", "acts", "LHoarseHill$Acts;", true)
  | 7 => ("HoarseHill", "foretelling", "LHoarseHill$Foretelling;", true)
  | 8 => ("HoarseHill", "planning", "LHoarseHill$Planning;", true)
  | 9 => ("HoarseHill", "matching", "LHoarseHill$Matching;", true)
  | 10 => ("HoarseHill", "asks", "LHoarseHill$Asks;", true)
  | 11 => ("HoarseHill", "latestFault", "I", false)
  | _ => ("HoarseHill", "latestFinding", "I", false)
def tyX8 : Nat → FieldType := fun k => match k with
  | 0 => .object "HoarseHill$Rows"
  | 1 => .object "HoarseHill$Tape"
  | 2 => .object "HoarseHill$Hill"
  | 3 => .object "HoarseHill$Hill"
  | 4 => .object "HoarseHill$Hill"
  | 5 => .object "HoarseHill$Hill"
  | 6 => .object "HoarseHill$Acts"
  | 7 => .object "HoarseHill$Foretelling"
  | 8 => .object "HoarseHill$Planning"
  | 9 => .object "HoarseHill$Matching"
  | 10 => .object "HoarseHill$Asks"
  | 11 => .int
  | _ => .int
abbrev wsX80 : List Cond := u_ws RX8 TX8 13
theorem nmX8 : ∀ a, a < 13 → ∀ b, b < 13 → a ≠ b → (TX8 a).2.1 ≠ (TX8 b).2.1 := by decide +kernel
theorem tyX8_ok : ∀ k, k < 13 → parseFieldDescriptor (TX8 k).2.2.1 = some (tyX8 k) := by decide +kernel
abbrev cX8_init : ByteArray := prog_1_method_1_code
def yX8_init : MethodName := ⟨RX8, "<init>", "()V"⟩
abbrev cX8_row : ByteArray := prog_1_method_2_code
def yX8_row : MethodName := ⟨RX8, "row", "(III)I"⟩
abbrev cX8_set : ByteArray := prog_1_method_3_code
def yX8_set : MethodName := ⟨RX8, "set", "(III)I"⟩
abbrev cX8_copy : ByteArray := prog_1_method_4_code
def yX8_copy : MethodName := ⟨RX8, "copy", "(IIIII)I"⟩
abbrev cX8_drop : ByteArray := prog_1_method_5_code
def yX8_drop : MethodName := ⟨RX8, "drop", "(I)I"⟩
abbrev cX8_feed : ByteArray := prog_1_method_6_code
def yX8_feed : MethodName := ⟨RX8, "feed", "(I)I"⟩
abbrev cX8_hill : ByteArray := prog_1_method_7_code
def yX8_hill : MethodName := ⟨RX8, "hill", "()I"⟩
abbrev cX8_fault : ByteArray := prog_1_method_8_code
def yX8_fault : MethodName := ⟨RX8, "fault", "()I"⟩
abbrev cX8_speak : ByteArray := prog_1_method_9_code
def yX8_speak : MethodName := ⟨RX8, "speak", "(I)I"⟩
abbrev cX8_lozenge : ByteArray := prog_1_method_10_code
def yX8_lozenge : MethodName := ⟨RX8, "lozenge", "(I)I"⟩
abbrev cX8_cold : ByteArray := prog_1_method_11_code
def yX8_cold : MethodName := ⟨RX8, "cold", "(II)I"⟩
abbrev cX8_needs : ByteArray := prog_1_method_12_code
def yX8_needs : MethodName := ⟨RX8, "needs", "(II)I"⟩
abbrev cX8_undo : ByteArray := prog_1_method_13_code
def yX8_undo : MethodName := ⟨RX8, "undo", "()I"⟩
abbrev cX8_member : ByteArray := prog_1_method_14_code
def yX8_member : MethodName := ⟨RX8, "member", "(II)I"⟩
abbrev cX8_motion : ByteArray := prog_1_method_15_code
def yX8_motion : MethodName := ⟨RX8, "motion", "(I)I"⟩
abbrev cX8_weight : ByteArray := prog_1_method_16_code
def yX8_weight : MethodName := ⟨RX8, "weight", "(I)I"⟩
abbrev cX8_power : ByteArray := prog_1_method_17_code
def yX8_power : MethodName := ⟨RX8, "power", "(II)I"⟩
abbrev cX8_fewest : ByteArray := prog_1_method_18_code
def yX8_fewest : MethodName := ⟨RX8, "fewest", "(I)I"⟩
abbrev cX8_plan : ByteArray := prog_1_method_19_code
def yX8_plan : MethodName := ⟨RX8, "plan", "(II)I"⟩
abbrev cX8_agenda : ByteArray := prog_1_method_20_code
def yX8_agenda : MethodName := ⟨RX8, "agenda", "(I)I"⟩
abbrev cX8_lozenges : ByteArray := prog_1_method_21_code
def yX8_lozenges : MethodName := ⟨RX8, "lozenges", "(I)I"⟩
abbrev cX8_later : ByteArray := prog_1_method_22_code
def yX8_later : MethodName := ⟨RX8, "later", "(II)I"⟩
abbrev cX8_carried : ByteArray := prog_1_method_23_code
def yX8_carried : MethodName := ⟨RX8, "carried", "(I)I"⟩
abbrev cX8_fits : ByteArray := prog_1_method_24_code
def yX8_fits : MethodName := ⟨RX8, "fits", "(IIIII)I"⟩
abbrev cX8_costs : ByteArray := prog_1_method_25_code
def yX8_costs : MethodName := ⟨RX8, "costs", "(III)I"⟩
abbrev cX8_colds : ByteArray := prog_1_method_26_code
def yX8_colds : MethodName := ⟨RX8, "colds", "(II)I"⟩
abbrev cX8_drawn : ByteArray := prog_1_method_27_code
def yX8_drawn : MethodName := ⟨RX8, "drawn", "(III)I"⟩
abbrev cX8_image : ByteArray := prog_1_method_28_code
def yX8_image : MethodName := ⟨RX8, "image", "(I)I"⟩
abbrev cX8_restore : ByteArray := prog_1_method_29_code
def yX8_restore : MethodName := ⟨RX8, "restore", "(I)I"⟩
abbrev cX8_kind : ByteArray := prog_1_method_30_code
def yX8_kind : MethodName := ⟨RX8, "kind", "(I)I"⟩
abbrev cX8_as : ByteArray := prog_1_method_31_code
def yX8_as : MethodName := ⟨RX8, "as", "(II)I"⟩
abbrev cX8_ask : ByteArray := prog_1_method_32_code
def yX8_ask : MethodName := ⟨RX8, "ask", "(II)I"⟩
abbrev cX8_trace : ByteArray := prog_1_method_33_code
def yX8_trace : MethodName := ⟨RX8, "trace", "(I)I"⟩
abbrev cX8_count : ByteArray := prog_1_method_34_code
def yX8_count : MethodName := ⟨RX8, "count", "(I)I"⟩
abbrev cX8_status : ByteArray := prog_1_method_35_code
def yX8_status : MethodName := ⟨RX8, "status", "()I"⟩
abbrev cX8_found : ByteArray := prog_1_method_36_code
def yX8_found : MethodName := ⟨RX8, "found", "(I)I"⟩
abbrev cX8_foundNothing : ByteArray := prog_1_method_37_code
def yX8_foundNothing : MethodName := ⟨RX8, "foundNothing", "(I)I"⟩
abbrev cX8_imageOf : ByteArray := prog_1_method_38_code
def yX8_imageOf : MethodName := ⟨RX8, "imageOf", "(I)LHoarseHill$Hill;"⟩
abbrev cX8_isEither : ByteArray := prog_1_method_39_code
def yX8_isEither : MethodName := ⟨RX8, "isEither", "(I)Z"⟩
abbrev cX8_isPick : ByteArray := prog_1_method_40_code
def yX8_isPick : MethodName := ⟨RX8, "isPick", "(I)Z"⟩
abbrev cX8_isOfKind : ByteArray := prog_1_method_41_code
def yX8_isOfKind : MethodName := ⟨RX8, "isOfKind", "(II)Z"⟩
abbrev cX8_breathAfterLozenges : ByteArray := prog_1_method_42_code
def yX8_breathAfterLozenges : MethodName := ⟨RX8, "breathAfterLozenges", "(II)I"⟩
abbrev cX8_lowest : ByteArray := prog_1_method_43_code
def yX8_lowest : MethodName := ⟨RX8, "lowest", "(III)I"⟩
abbrev cX8_greatestShared : ByteArray := prog_1_method_44_code
def yX8_greatestShared : MethodName := ⟨RX8, "greatestShared", "(II)I"⟩
def RX9 : String := "HoarseHillModel"
def TX9 : u_T := fun k => match k with
  | 0 => ("HoarseHillModel", "row", "[I", true)
  | 1 => ("HoarseHillModel", "isHill", "Z", false)
  | 2 => ("HoarseHillModel", "undos", "I", false)
  | 3 => ("HoarseHillModel", "isKept", "[Z", true)
  | 4 => ("HoarseHillModel", "lanes", "[I", true)
  | 5 => ("HoarseHillModel", "sizes", "[I", true)
  | 6 => ("HoarseHillModel", "items", "[I", true)
  | 7 => ("HoarseHillModel", "tape", "[I", true)
  | 8 => ("HoarseHillModel", "length", "I", false)
  | 9 => ("HoarseHillModel", "fault", "I", false)
  | 10 => ("HoarseHillModel", "status", "I", false)
  | 11 => ("HoarseHillModel", "trace", "[I", true)
  | 12 => ("HoarseHillModel", "traced", "I", false)
  | 13 => ("HoarseHillModel", "at", "I", false)
  | 14 => ("HoarseHillModel", "wrong", "I", false)
  | 15 => ("HoarseHillModel", "number", "I", false)
  | 16 => ("HoarseHillModel", "sets", "[I", true)
  | 17 => ("HoarseHillModel", "bestSets", "[I", true)
  | _ => ("HoarseHillModel", "bestOrder", "[I", true)
def tyX9 : Nat → FieldType := fun k => match k with
  | 0 => .array .int
  | 1 => .boolean
  | 2 => .int
  | 3 => .array .boolean
  | 4 => .array .int
  | 5 => .array .int
  | 6 => .array .int
  | 7 => .array .int
  | 8 => .int
  | 9 => .int
  | 10 => .int
  | 11 => .array .int
  | 12 => .int
  | 13 => .int
  | 14 => .int
  | 15 => .int
  | 16 => .array .int
  | 17 => .array .int
  | _ => .array .int
abbrev wsX90 : List Cond := u_ws RX9 TX9 19
theorem nmX9 : ∀ a, a < 19 → ∀ b, b < 19 → a ≠ b → (TX9 a).2.1 ≠ (TX9 b).2.1 := by decide +kernel
theorem tyX9_ok : ∀ k, k < 19 → parseFieldDescriptor (TX9 k).2.2.1 = some (tyX9 k) := by decide +kernel
abbrev cX9_init : ByteArray := prog_11_method_1_code
def yX9_init : MethodName := ⟨RX9, "<init>", "()V"⟩
abbrev cX9_in : ByteArray := prog_11_method_2_code
def yX9_in : MethodName := ⟨RX9, "in", "(JJJ)Z"⟩
abbrev cX9_has : ByteArray := prog_11_method_3_code
def yX9_has : MethodName := ⟨RX9, "has", "(II)Z"⟩
abbrev cX9_between : ByteArray := prog_11_method_4_code
def yX9_between : MethodName := ⟨RX9, "between", "(I)I"⟩
abbrev cX9_bits : ByteArray := prog_11_method_5_code
def yX9_bits : MethodName := ⟨RX9, "bits", "(I)I"⟩
abbrev cX9_find : ByteArray := prog_11_method_6_code
def yX9_find : MethodName := ⟨RX9, "find", "(I)I"⟩
abbrev cX9_well : ByteArray := prog_11_method_7_code
def yX9_well : MethodName := ⟨RX9, "well", "(I)I"⟩
abbrev cX9_isRow : ByteArray := prog_11_method_8_code
def yX9_isRow : MethodName := ⟨RX9, "isRow", "(I)Z"⟩
abbrev cX9_row : ByteArray := prog_11_method_9_code
def yX9_row : MethodName := ⟨RX9, "row", "(III)I"⟩
abbrev cX9_narrow : ByteArray := prog_11_method_10_code
def yX9_narrow : MethodName := ⟨RX9, "narrow", "(II)I"⟩
abbrev cX9_set : ByteArray := prog_11_method_11_code
def yX9_set : MethodName := ⟨RX9, "set", "(III)I"⟩
abbrev cX9_isSpan : ByteArray := prog_11_method_12_code
def yX9_isSpan : MethodName := ⟨RX9, "isSpan", "(III)Z"⟩
abbrev cX9_copy : ByteArray := prog_11_method_13_code
def yX9_copy : MethodName := ⟨RX9, "copy", "(IIIII)I"⟩
abbrev cX9_drop : ByteArray := prog_11_method_14_code
def yX9_drop : MethodName := ⟨RX9, "drop", "(I)I"⟩
abbrev cX9_feed : ByteArray := prog_11_method_15_code
def yX9_feed : MethodName := ⟨RX9, "feed", "(I)I"⟩
abbrev cX9_isLetter : ByteArray := prog_11_method_16_code
def yX9_isLetter : MethodName := ⟨RX9, "isLetter", "(I)Z"⟩
abbrev cX9_isFigure : ByteArray := prog_11_method_17_code
def yX9_isFigure : MethodName := ⟨RX9, "isFigure", "(I)Z"⟩
abbrev cX9_refuse : ByteArray := prog_11_method_18_code
def yX9_refuse : MethodName := ⟨RX9, "refuse", "(I)Z"⟩
abbrev cX9_sign : ByteArray := prog_11_method_19_code
def yX9_sign : MethodName := ⟨RX9, "sign", "(I)Z"⟩
abbrev cX9_readsNumber : ByteArray := prog_11_method_20_code
def yX9_readsNumber : MethodName := ⟨RX9, "readsNumber", "(II)Z"⟩
abbrev cX9_readsLaw : ByteArray := prog_11_method_21_code
def yX9_readsLaw : MethodName := ⟨RX9, "readsLaw", "()Z"⟩
abbrev cX9_readsMotion : ByteArray := prog_11_method_22_code
def yX9_readsMotion : MethodName := ⟨RX9, "readsMotion", "()Z"⟩
abbrev cX9_kindOfLetter : ByteArray := prog_11_method_23_code
def yX9_kindOfLetter : MethodName := ⟨RX9, "kindOfLetter", "(I)I"⟩
abbrev cX9_readsMember : ByteArray := prog_11_method_24_code
def yX9_readsMember : MethodName := ⟨RX9, "readsMember", "()Z"⟩
abbrev cX9_isSort : ByteArray := prog_11_method_25_code
def yX9_isSort : MethodName := ⟨RX9, "isSort", "()Z"⟩
abbrev cX9_reads : ByteArray := prog_11_method_26_code
def yX9_reads : MethodName := ⟨RX9, "reads", "()Z"⟩
abbrev cX9_hill : ByteArray := prog_11_method_27_code
def yX9_hill : MethodName := ⟨RX9, "hill", "()I"⟩
abbrev cX9_fault : ByteArray := prog_11_method_28_code
def yX9_fault : MethodName := ⟨RX9, "fault", "()I"⟩
abbrev cX9_copyTown : ByteArray := prog_11_method_29_code
def yX9_copyTown : MethodName := ⟨RX9, "copyTown", "(II)V"⟩
abbrev cX9_keepPast : ByteArray := prog_11_method_30_code
def yX9_keepPast : MethodName := ⟨RX9, "keepPast", "()V"⟩
abbrev cX9_undo : ByteArray := prog_11_method_31_code
def yX9_undo : MethodName := ⟨RX9, "undo", "()I"⟩
abbrev cX9_isMember : ByteArray := prog_11_method_32_code
def yX9_isMember : MethodName := ⟨RX9, "isMember", "(I)Z"⟩
abbrev cX9_costBy : ByteArray := prog_11_method_33_code
def yX9_costBy : MethodName := ⟨RX9, "costBy", "(II)I"⟩
abbrev cX9_costOf : ByteArray := prog_11_method_34_code
def yX9_costOf : MethodName := ⟨RX9, "costOf", "(II)I"⟩
abbrev cX9_canSpeak : ByteArray := prog_11_method_35_code
def yX9_canSpeak : MethodName := ⟨RX9, "canSpeak", "(I)I"⟩
abbrev cX9_weighs : ByteArray := prog_11_method_36_code
def yX9_weighs : MethodName := ⟨RX9, "weighs", "(II)I"⟩
abbrev cX9_weightOf : ByteArray := prog_11_method_37_code
def yX9_weightOf : MethodName := ⟨RX9, "weightOf", "(II)I"⟩
abbrev cX9_motionOf : ByteArray := prog_11_method_38_code
def yX9_motionOf : MethodName := ⟨RX9, "motionOf", "(I)I"⟩
abbrev cX9_isCarried : ByteArray := prog_11_method_39_code
def yX9_isCarried : MethodName := ⟨RX9, "isCarried", "(II)Z"⟩
abbrev cX9_passFor : ByteArray := prog_11_method_40_code
def yX9_passFor : MethodName := ⟨RX9, "passFor", "(III)I"⟩
abbrev cX9_pass : ByteArray := prog_11_method_41_code
def yX9_pass : MethodName := ⟨RX9, "pass", "(II)I"⟩
abbrev cX9_passAll : ByteArray := prog_11_method_42_code
def yX9_passAll : MethodName := ⟨RX9, "passAll", "(I)I"⟩
abbrev cX9_areMembers : ByteArray := prog_11_method_43_code
def yX9_areMembers : MethodName := ⟨RX9, "areMembers", "(I)Z"⟩
abbrev cX9_speak : ByteArray := prog_11_method_44_code
def yX9_speak : MethodName := ⟨RX9, "speak", "(I)I"⟩
abbrev cX9_lozenge : ByteArray := prog_11_method_45_code
def yX9_lozenge : MethodName := ⟨RX9, "lozenge", "(I)I"⟩
abbrev cX9_cold : ByteArray := prog_11_method_46_code
def yX9_cold : MethodName := ⟨RX9, "cold", "(II)I"⟩
abbrev cX9_isMotion : ByteArray := prog_11_method_47_code
def yX9_isMotion : MethodName := ⟨RX9, "isMotion", "(I)Z"⟩
abbrev cX9_needs : ByteArray := prog_11_method_48_code
def yX9_needs : MethodName := ⟨RX9, "needs", "(II)I"⟩
abbrev cX9_member : ByteArray := prog_11_method_49_code
def yX9_member : MethodName := ⟨RX9, "member", "(II)I"⟩
abbrev cX9_motion : ByteArray := prog_11_method_50_code
def yX9_motion : MethodName := ⟨RX9, "motion", "(I)I"⟩
abbrev cX9_weight : ByteArray := prog_11_method_51_code
def yX9_weight : MethodName := ⟨RX9, "weight", "(I)I"⟩
abbrev cX9_layTried : ByteArray := prog_11_method_52_code
def yX9_layTried : MethodName := ⟨RX9, "layTried", "()V"⟩
abbrev cX9_tellPart : ByteArray := prog_11_method_53_code
def yX9_tellPart : MethodName := ⟨RX9, "tellPart", "(III)I"⟩
abbrev cX9_factorial : ByteArray := prog_11_method_54_code
def yX9_factorial : MethodName := ⟨RX9, "factorial", "(I)I"⟩
abbrev cX9_power : ByteArray := prog_11_method_55_code
def yX9_power : MethodName := ⟨RX9, "power", "(II)I"⟩
abbrev cX9_fewest : ByteArray := prog_11_method_56_code
def yX9_fewest : MethodName := ⟨RX9, "fewest", "(I)I"⟩
abbrev cX9_nextSet : ByteArray := prog_11_method_57_code
def yX9_nextSet : MethodName := ⟨RX9, "nextSet", "(II)I"⟩
abbrev cX9_mostCarried : ByteArray := prog_11_method_58_code
def yX9_mostCarried : MethodName := ⟨RX9, "mostCarried", "(I)I"⟩
abbrev cX9_plan : ByteArray := prog_11_method_59_code
def yX9_plan : MethodName := ⟨RX9, "plan", "(II)I"⟩
abbrev cX9_carriedBy : ByteArray := prog_11_method_60_code
def yX9_carriedBy : MethodName := ⟨RX9, "carriedBy", "(I)I"⟩
abbrev cX9_agenda : ByteArray := prog_11_method_61_code
def yX9_agenda : MethodName := ⟨RX9, "agenda", "(I)I"⟩
abbrev cX9_gets : ByteArray := prog_11_method_62_code
def yX9_gets : MethodName := ⟨RX9, "gets", "(II)I"⟩
abbrev cX9_lozengesIn : ByteArray := prog_11_method_63_code
def yX9_lozengesIn : MethodName := ⟨RX9, "lozengesIn", "(I)I"⟩
abbrev cX9_turns : ByteArray := prog_11_method_64_code
def yX9_turns : MethodName := ⟨RX9, "turns", "(I)Z"⟩
abbrev cX9_lozenges : ByteArray := prog_11_method_65_code
def yX9_lozenges : MethodName := ⟨RX9, "lozenges", "(I)I"⟩
abbrev cX9_later : ByteArray := prog_11_method_66_code
def yX9_later : MethodName := ⟨RX9, "later", "(II)I"⟩
abbrev cX9_carried : ByteArray := prog_11_method_67_code
def yX9_carried : MethodName := ⟨RX9, "carried", "(I)I"⟩
abbrev cX9_noItems : ByteArray := prog_11_method_68_code
def yX9_noItems : MethodName := ⟨RX9, "noItems", "(III)I"⟩
abbrev cX9_isSo : ByteArray := prog_11_method_69_code
def yX9_isSo : MethodName := ⟨RX9, "isSo", "(IIIII)Z"⟩
abbrev cX9_fits : ByteArray := prog_11_method_70_code
def yX9_fits : MethodName := ⟨RX9, "fits", "(IIIII)I"⟩
abbrev cX9_costs : ByteArray := prog_11_method_71_code
def yX9_costs : MethodName := ⟨RX9, "costs", "(III)I"⟩
abbrev cX9_colds : ByteArray := prog_11_method_72_code
def yX9_colds : MethodName := ⟨RX9, "colds", "(II)I"⟩
abbrev cX9_drawn : ByteArray := prog_11_method_73_code
def yX9_drawn : MethodName := ⟨RX9, "drawn", "(III)I"⟩
abbrev cX9_image : ByteArray := prog_11_method_74_code
def yX9_image : MethodName := ⟨RX9, "image", "(I)I"⟩
abbrev cX9_restore : ByteArray := prog_11_method_75_code
def yX9_restore : MethodName := ⟨RX9, "restore", "(I)I"⟩
abbrev cX9_kind : ByteArray := prog_11_method_76_code
def yX9_kind : MethodName := ⟨RX9, "kind", "(I)I"⟩
abbrev cX9_isOf : ByteArray := prog_11_method_77_code
def yX9_isOf : MethodName := ⟨RX9, "isOf", "(II)Z"⟩
abbrev cX9_as : ByteArray := prog_11_method_78_code
def yX9_as : MethodName := ⟨RX9, "as", "(II)I"⟩
abbrev cX9_begin : ByteArray := prog_11_method_79_code
def yX9_begin : MethodName := ⟨RX9, "begin", "(I)V"⟩
abbrev cX9_lentSize : ByteArray := prog_11_method_80_code
def yX9_lentSize : MethodName := ⟨RX9, "lentSize", "(I)I"⟩
abbrev cX9_plainSize : ByteArray := prog_11_method_81_code
def yX9_plainSize : MethodName := ⟨RX9, "plainSize", "(I)I"⟩
abbrev cX9_mildSize : ByteArray := prog_11_method_82_code
def yX9_mildSize : MethodName := ⟨RX9, "mildSize", "(I)I"⟩
abbrev cX9_sizeOf : ByteArray := prog_11_method_83_code
def yX9_sizeOf : MethodName := ⟨RX9, "sizeOf", "(I)I"⟩
abbrev cX9_lentMark : ByteArray := prog_11_method_84_code
def yX9_lentMark : MethodName := ⟨RX9, "lentMark", "(I)I"⟩
abbrev cX9_plainMark : ByteArray := prog_11_method_85_code
def yX9_plainMark : MethodName := ⟨RX9, "plainMark", "(I)I"⟩
abbrev cX9_mark : ByteArray := prog_11_method_86_code
def yX9_mark : MethodName := ⟨RX9, "mark", "(I)I"⟩
abbrev cX9_mildMark : ByteArray := prog_11_method_87_code
def yX9_mildMark : MethodName := ⟨RX9, "mildMark", "(I)I"⟩
abbrev cX9_ask : ByteArray := prog_11_method_88_code
def yX9_ask : MethodName := ⟨RX9, "ask", "(II)I"⟩
abbrev cX9_trace : ByteArray := prog_11_method_89_code
def yX9_trace : MethodName := ⟨RX9, "trace", "(I)I"⟩
abbrev cX9_count : ByteArray := prog_11_method_90_code
def yX9_count : MethodName := ⟨RX9, "count", "(I)I"⟩
abbrev cX9_status : ByteArray := prog_11_method_91_code
def yX9_status : MethodName := ⟨RX9, "status", "()I"⟩
def RJ6 : String := "java/lang/Integer"
def TJ6 : u_T := fun k => match k with
  | _ => ("", "", "", false)
def tyJ6 : Nat → FieldType := fun k => match k with
  | _ => .int
abbrev wsJ60 : List Cond := u_ws RJ6 TJ6 0
theorem nmJ6 : ∀ a, a < 0 → ∀ b, b < 0 → a ≠ b → (TJ6 a).2.1 ≠ (TJ6 b).2.1 := by decide +kernel
theorem tyJ6_ok : ∀ k, k < 0 → parseFieldDescriptor (TJ6 k).2.2.1 = some (tyJ6 k) := by decide +kernel
abbrev cJ6_bitCount_0f7a4 : ByteArray := prog_12_method_49_code
def yJ6_bitCount_0f7a4 : MethodName := ⟨RJ6, "bitCount", "(I)I"⟩
def RJ9 : String := "java/lang/Math"
def TJ9 : u_T := fun k => match k with
  | _ => ("", "", "", false)
def tyJ9 : Nat → FieldType := fun k => match k with
  | _ => .int
abbrev wsJ90 : List Cond := u_ws RJ9 TJ9 0
theorem nmJ9 : ∀ a, a < 0 → ∀ b, b < 0 → a ≠ b → (TJ9 a).2.1 ≠ (TJ9 b).2.1 := by decide +kernel
theorem tyJ9_ok : ∀ k, k < 0 → parseFieldDescriptor (TJ9 k).2.2.1 = some (tyJ9 k) := by decide +kernel
abbrev cJ9_max_7cf53 : ByteArray := prog_13_method_65_code
def yJ9_max_7cf53 : MethodName := ⟨RJ9, "max", "(II)I"⟩
abbrev cJ9_min_7cf53 : ByteArray := prog_13_method_69_code
def yJ9_min_7cf53 : MethodName := ⟨RJ9, "min", "(II)I"⟩
def RJ10 : String := "java/lang/System"
def TJ10 : u_T := fun k => match k with
  | _ => ("", "", "", false)
def tyJ10 : Nat → FieldType := fun k => match k with
  | _ => .int
abbrev wsJ100 : List Cond := u_ws RJ10 TJ10 0
theorem nmJ10 : ∀ a, a < 0 → ∀ b, b < 0 → a ≠ b → (TJ10 a).2.1 ≠ (TJ10 b).2.1 := by decide +kernel
theorem tyJ10_ok : ∀ k, k < 0 → parseFieldDescriptor (TJ10 k).2.2.1 = some (tyJ10 k) := by decide +kernel
def RL : String := "HoarseHillLaw"
abbrev cL_law : ByteArray := code
def yL_law : MethodName := ⟨RL, "law", "([I)Z"⟩
abbrev vwCl : List vw_C := [(RX0, TX0, 3), (RX1, TX1, 4), (RX2, TX2, 3), (RX3, TX3, 10), (RX4, TX4, 3), (RX5, TX5, 7), (RX6, TX6, 3), (RX7, TX7, 4), (RX8, TX8, 13), (RX9, TX9, 19)]
end
section
/-! the words of the tables that hold at every state that a call reaches -/
def am_nest : Jvm.Cond → Bool
  | .methodLinkNest _ _ _ _ => true
  | _ => false
def am_kw (w : Jvm.Cond) : Bool := goodWord w || am_nest w
def am_ws : List Jvm.Cond := lw_tbl.filter am_kw
theorem am_word {args a' : Array Value} {s U : State} (hW : s.WarmedH U.vm) {w : Jvm.Cond} (hk : am_kw w = true) (h : w.before args s = true) : w.before a' U = true := by
  unfold am_kw at hk
  rcases (Bool.or_eq_true _ _).mp hk with h1 | h1
  · exact word_at hW (good_of_word h1) h
  · cases w with
    | methodLinkNest a i x hh => exact va_Nw.use rfl (va_Nw.warmM hW (va_Nw.of rfl h))
    | _ => cases h1
theorem am_in {i : Nat} {w : Jvm.Cond} (h : lw_tbl[i]? = some w) (hk : am_kw w = true) : w ∈ am_ws := List.mem_filter.mpr ⟨List.mem_of_getElem? h, hk⟩
theorem am_pay {args : Array Value} {s : State} (ht : ∀ w ∈ am_ws, w.before args s = true) : ∀ w ∈ am_ws, ∀ (a' : Array Value) (U : State), s.WarmedH U.vm → w.before a' U = true :=
  fun w hw a' U hW => am_word hW (List.mem_filter.mp hw).2 (ht w hw)
theorem am_u0 : ∀ w ∈ u_ws RX0 TX0 3, w ∈ am_ws := by decide +kernel
end
section
/-! A MACHINE OF MY OWN: cells by the order of their making, frames with what is known of the locals; what an instruction does there. An entry of a method's table: the instruction, the place behind it, the target, three numbers (a local, a field, a method .. and the place of its word in lw_tbl), an int, a long, the pairs of a switch. -/
abbrev am_I : Type := Instr × Nat × Nat × Nat × Nat × Nat × Int32 × Int64 × List (Int32 × Nat)
abbrev am_T : Type := List (List (Option am_I))
abbrev am_C : Type := (Bool × Nat × (Nat → Int32)) ⊕ (Nat × List Value)
abbrev am_H : Type := List am_C
abbrev am_L : Type := List (Option Value)
abbrev am_F : Type := Nat × am_L × List Value × am_H
abbrev am_R : Type := am_F ⊕ ((Prop × am_F × am_F) ⊕ ((Prop × am_F) ⊕ ((Prop × Option Value) ⊕ ((Nat × List Value × am_F) ⊕ Unit))))
def am_fetch (t : am_T) (pc : Nat) : Option am_I := match t[pc / 16]? with
  | some r => (match r[pc % 16]? with
    | some (some e) => some e
    | _ => none)
  | none => none
def am_ty : Nat → Nat → FieldType
  | 0 => tyX0
  | 1 => tyX1
  | 2 => tyX2
  | 3 => tyX3
  | 4 => tyX4
  | 5 => tyX5
  | 6 => tyX6
  | 7 => tyX7
  | 8 => tyX8
  | _ => tyX9
end
section
/-! what is asked of a table's entry, and of a method: by program, over the code and the words of the tables -/
abbrev am_M : Type := MethodName × ByteArray × Nat × Option FieldType × Nat × Nat × Nat × Nat × Nat × Nat × am_T
def am_len (pc n nx : Nat) : Bool := Nat.beq nx (pc + n)
def am_fld (own : String) (i a b w : Nat) : Bool := match vwCl[a]? with
  | some q => Nat.blt b q.2.2 && decide (lw_tbl[w]? = some (Jvm.Cond.fieldLink own i q.1 (q.2.1 b).2.1 (q.2.1 b).2.2.1)) && decide ((q.2.1 b).1 = q.1)
  | none => false
def am_fin (a b : Nat) : Bool := match vwCl[a]? with
  | some q => (q.2.1 b).2.2.2
  | none => false
def am_own (own : String) (a : Nat) : Bool := match vwCl[a]? with
  | some q => decide (q.1 = own)
  | none => false
def am_sws (pc : Nat) (lo : Int) : List Int → List (Int32 × Nat) → Bool
  | [], [] => true
  | o :: os, (k, t) :: r => decide (k.toInt = lo) && decide ((pc : Int) + o = (t : Int)) && am_sws pc (lo + 1) os r
  | _, _ => false
def am_swl (pc : Nat) : List (Int × Int) → List (Int32 × Nat) → Bool
  | [], [] => true
  | (n, o) :: os, (k, t) :: r => decide (k.toInt = n) && decide ((pc : Int) + o = (t : Int)) && am_swl pc os r
  | _, _ => false
/-- the head of a method of the list: its name, code, locals, answer, kind (0 static, 1 virtual, 2 a maker), the places of its words, its arguments -/
def am_call (mt : Nat → Option (MethodName × Nat × Nat)) (own : String) (i tg a b w k : Nat) (nest : Bool) : Bool := match mt a with
  | some (y, n, kd) => Nat.beq n b && Nat.beq kd k && (match nest with
    | false => decide (lw_tbl[w]? = some (Jvm.Cond.methodLink own i y))
    | true => decide (lw_tbl[w]? = some (Jvm.Cond.methodLinkNest own i y "HoarseHill")))
  | none => false
def am_rcv (mt : Nat → Option (MethodName × Nat × Nat)) (a tg : Nat) : Bool := match mt a, vwCl[tg]? with
  | some (y, _, _), some q => decide (y.cls = q.1)
  | _, _ => false
def am_ok1 (mt : Nat → Option (MethodName × Nat × Nat)) (own : String) (mnm : String) (cc : ByteArray) (nL : Nat) (ret : Option FieldType) (pc : Nat) (E : am_I) : Bool := match E with
  | (ins, nx, tg, a, b, w, v, lv, sw) => decide (decode cc pc = .ok (ins, nx - pc)) && (match ins with
    | .iconst n => am_len pc 1 nx && decide (Int32.ofInt n = v)
    | .bipush n => am_len pc 2 nx && decide ((Int8.ofInt n).toInt32 = v)
    | .sipush n => am_len pc 3 nx && decide ((Int16.ofInt n).toInt32 = v)
    | .ldc i => am_len pc 2 nx && decide (lw_tbl[w]? = some (Jvm.Cond.constant own i v))
    | .ldc_w i => am_len pc 3 nx && decide (lw_tbl[w]? = some (Jvm.Cond.constant own i v))
    | .lconst n => am_len pc 1 nx && decide (Int64.ofNat (n : Nat) = lv)
    | .ldc2_w i => am_len pc 3 nx && decide (lw_tbl[w]? = some (Jvm.Cond.constantLong own i lv))
    | .iload i => am_len pc 2 nx && Nat.beq i a
    | .lload i => am_len pc 2 nx && Nat.beq i a
    | .aload i => am_len pc 2 nx && Nat.beq i a
    | .istore i => am_len pc 2 nx && Nat.beq i a
    | .lstore i => am_len pc 2 nx && Nat.beq i a
    | .astore i => am_len pc 2 nx && Nat.beq i a
    | .iload_n i => am_len pc 1 nx && Nat.beq i.val a
    | .lload_n i => am_len pc 1 nx && Nat.beq i.val a
    | .aload_n i => am_len pc 1 nx && Nat.beq i.val a
    | .istore_n i => am_len pc 1 nx && Nat.beq i.val a
    | .lstore_n i => am_len pc 1 nx && Nat.beq i.val a
    | .astore_n i => am_len pc 1 nx && Nat.beq i.val a
    | .iinc i n => am_len pc 3 nx && Nat.beq i a && decide (Int32.ofInt n = v)
    | .goto o => am_len pc 3 nx && decide ((pc : Int) + o = (tg : Int))
    | .if_icmp _ o => am_len pc 3 nx && decide ((pc : Int) + o = (tg : Int))
    | .ifCond _ o => am_len pc 3 nx && decide ((pc : Int) + o = (tg : Int))
    | .tableswitch d lo hi os => Nat.ble pc nx && decide ((pc : Int) + d = (tg : Int)) && decide (hi + 1 - lo = (os.size : Int)) && am_sws pc lo os.toList sw
    | .lookupswitch d ps => Nat.ble pc nx && decide ((pc : Int) + d = (tg : Int)) && (ps.toList.zip (ps.toList.drop 1)).all (fun (a, next) => a.1 < next.1) && am_swl pc ps.toList sw
    | .getfield i => am_len pc 3 nx && am_fld own i a b w
    | .putfield i => am_len pc 3 nx && am_fld own i a b w && (match tg with
      | 0 => decide (am_ty a b = .int) && !(am_fin a b)
      | 1 => decide (am_ty a b = .boolean) && !(am_fin a b)
      | _ => am_fin a b && am_own own a && decide (mnm = "<init>") && (match am_ty a b with
        | .object _ => true
        | .array _ => true
        | _ => false))
    | .new i => am_len pc 3 nx && (match vwCl[a]? with
      | some q => decide (lw_tbl[w]? = some (Jvm.Cond.classLink own i q.1))
      | none => false)
    | .newarray _ => am_len pc 2 nx
    | .invokespecial i => am_len pc 3 nx && (match tg with
      | 2 => decide (lw_tbl[w]? = some (Jvm.Cond.methodLink own i objectInit))
      | 1 => am_call mt own i tg a b w 2 true
      | _ => am_call mt own i tg a b w 2 false)
    | .invokevirtual i => am_len pc 3 nx && am_call mt own i tg a b w 1 false && am_rcv mt a tg
    | .invokestatic i => am_len pc 3 nx && (match tg with
      | 2 => decide (lw_tbl[w]? = some (Jvm.Cond.methodLink own i arraycopyName))
      | 1 => am_call mt own i tg a b w 0 true
      | _ => am_call mt own i tg a b w 0 false)
    | .ireturn => am_len pc 1 nx && (match tg with
      | 0 => decide (ret = some .int)
      | _ => decide (ret = some .boolean))
    | .areturn => am_len pc 1 nx && (match ret with
      | some (.object _) => true
      | _ => false)
    | .return_ => am_len pc 1 nx && decide (ret = none)
    | _ => am_len pc 1 nx)
def am_okR (f : Nat → am_I → Bool) : Nat → List (Option am_I) → Bool
  | _, [] => true
  | pc, none :: r => am_okR f (pc + 1) r
  | pc, some E :: r => f pc E && am_okR f (pc + 1) r
def am_okT (f : Nat → am_I → Bool) : Nat → am_T → Bool
  | _, [] => true
  | k, r :: t => Nat.ble r.length 16 && am_okR f (16 * k) r && am_okT f (k + 1) t
theorem am_okR_at {f : Nat → am_I → Bool} : ∀ (r : List (Option am_I)) (pc i : Nat) (E : am_I), am_okR f pc r = true → r[i]? = some (some E) → f (pc + i) E = true
  | [], _, i, _, _, h => by simp at h
  | none :: r, pc, 0, _, _, h => by simp at h
  | none :: r, pc, i + 1, E, h1, h => by
    rw [List.getElem?_cons_succ] at h
    have := am_okR_at r (pc + 1) i E h1 h
    rw [show pc + (i + 1) = pc + 1 + i by omega]
    exact this
  | some e :: r, pc, 0, E, h1, h => by
    simp at h
    subst h
    simp only [am_okR, Bool.and_eq_true] at h1
    exact h1.1
  | some e :: r, pc, i + 1, E, h1, h => by
    rw [List.getElem?_cons_succ] at h
    simp only [am_okR, Bool.and_eq_true] at h1
    have := am_okR_at r (pc + 1) i E h1.2 h
    rw [show pc + (i + 1) = pc + 1 + i by omega]
    exact this
theorem am_okT_at {f : Nat → am_I → Bool} : ∀ (t : am_T) (k i : Nat) (r : List (Option am_I)), am_okT f k t = true → t[i]? = some r → am_okR f (16 * (k + i)) r = true
  | [], _, i, _, _, h => by simp at h
  | q :: t, k, 0, r, h1, h => by
    simp at h
    subst h
    simp only [am_okT, Bool.and_eq_true] at h1
    exact h1.1.2
  | q :: t, k, i + 1, r, h1, h => by
    rw [List.getElem?_cons_succ] at h
    simp only [am_okT, Bool.and_eq_true] at h1
    have := am_okT_at t (k + 1) i r h1.2 h
    rw [show k + (i + 1) = k + 1 + i by omega]
    exact this
theorem am_fetch_ok {f : Nat → am_I → Bool} {t : am_T} (h : am_okT f 0 t = true) {pc : Nat} {E : am_I} (hf : am_fetch t pc = some E) : f pc E = true := by
  unfold am_fetch at hf
  cases hr : t[pc / 16]? with
  | none => rw [hr] at hf; cases hf
  | some r =>
    rw [hr] at hf
    have h1 := am_okT_at t 0 (pc / 16) r h hr
    cases he : r[pc % 16]? with
    | none => simp only [he] at hf; cases hf
    | some o =>
      cases o with
      | none => simp only [he] at hf; cases hf
      | some e =>
        simp only [he] at hf
        cases hf
        have h2 := am_okR_at r _ (pc % 16) E h1 he
        rw [show 16 * (0 + pc / 16) + pc % 16 = pc by omega] at h2
        exact h2
/-- a method: its words stand in the tables, its code is its table -/
def am_okH (M : am_M) : Bool := match M with
  | (y, cc, nL, ret, kd, w1, w2, w3, w4, n, _) => decide (lw_tbl[w1]? = some (Jvm.Cond.code y cc nL ret)) && decide (lw_tbl[w2]? = some (Jvm.Cond.initialized y.cls)) && (match kd with
      | 0 => decide (lw_tbl[w3]? = some (Jvm.Cond.static y))
      | 1 => decide (lw_tbl[w3]? = some (Jvm.Cond.instanceMethod y)) && decide (lw_tbl[w4]? = some (Jvm.Cond.selects y.cls y y))
      | _ => decide (lw_tbl[w3]? = some (Jvm.Cond.instanceMethod y)) && decide (y.name = "<init>") && decide (ret = none)) &&
    plainName y.cls && decide (y.cls ≠ "java/lang/invoke/MethodHandle") && decide (y.cls ≠ "java/lang/invoke/VarHandle") && decide ((parseMethodDescriptor y.desc).map (fun d => d.parameters.length) = some n) && Nat.ble nL 20
def am_okM (mt : Nat → Option (MethodName × Nat × Nat)) (M : am_M) : Prop := am_okH M = true ∧ am_okT (am_ok1 mt M.1.cls M.1.name M.2.1 M.2.2.1 M.2.2.2.1) 0 M.2.2.2.2.2.2.2.2.2.2 = true
def am_hd (M : am_M) : MethodName × Nat × Nat := (M.1, M.2.2.2.2.2.2.2.2.2.1, M.2.2.2.2.1)
def am_okQ (f : Nat → am_I → Bool) (k : Nat) (r : List (Option am_I)) : Bool := Nat.ble r.length 16 && am_okR f (16 * k) r
theorem am_okT_c {f : Nat → am_I → Bool} {k : Nat} {r : List (Option am_I)} {t : am_T} (h1 : am_okQ f k r = true) (h2 : am_okT f (k + 1) t = true) : am_okT f k (r :: t) = true := by
  show (am_okQ f k r && am_okT f (k + 1) t) = true
  rw [h1, h2]; rfl
end
section
def am_hs : List (MethodName × Nat × Nat) := []
def am_mt (j : Nat) : Option (MethodName × Nat × Nat) := am_hs[j]?
def am_ms : List am_M := []
theorem am_ms_ok : ∀ M ∈ am_ms, am_okM am_mt M := sorry
theorem am_ms_hs : am_ms.map am_hd ++ [(yJ9_max_7cf53, 2, 0), (yJ9_min_7cf53, 2, 0)] = am_hs := sorry
theorem am_mt_max : am_mt 228 = some (yJ9_max_7cf53, 2, 0) := sorry
theorem am_mt_min : am_mt 229 = some (yJ9_min_7cf53, 2, 0) := sorry
def am_t_law : am_T := []
theorem am_q_law : am_okT (am_ok1 am_mt RL "law" code 4 (some .boolean)) 0 am_t_law = true := sorry
end
section
/-! one instruction of my machine -/
def am_no : am_R := .inr (.inr (.inr (.inr (.inr ()))))
def am_two : Option (Option Value) → Bool
  | some (some (.long _)) => true
  | some (some (.double _)) => true
  | _ => false
def am_st1 (L : am_L) (i : Nat) (x : Value) : Option am_L := match Nat.blt i L.length with
  | true => (match i with
    | 0 => some (L.set 0 (some x))
    | j + 1 => (match am_two L[j]? with
      | true => none
      | false => some (L.set (j + 1) (some x))))
  | false => none
def am_st2 (L : am_L) (i : Nat) (x : Value) : Option am_L := match Nat.blt (i + 1) L.length with
  | true => (match i with
    | 0 => some ((L.set 0 (some x)).set 1 none)
    | j + 1 => (match am_two L[j]? with
      | true => none
      | false => some ((L.set (j + 1) (some x)).set (j + 2) none)))
  | false => none
def am_put (o : Option am_L) (nx : Nat) (st : List Value) (h : am_H) : am_R := match o with
  | some L => .inl (nx, L, st, h)
  | none => am_no
def am_pop : Nat → List Value → List Value → Option (List Value × List Value)
  | 0, acc, st => some (acc, st)
  | n + 1, acc, v :: st => am_pop n (v :: acc) st
  | _ + 1, _, [] => none
def am_pick (x : Int32) : List (Int32 × Nat) → Nat → Nat
  | [], d => d
  | (k, t) :: r, d => if x = k then t else am_pick x r d
def am_cats : List Value → Nat
  | [] => 0
  | v :: r => v.category + am_cats r
def am_icmp (c : ClassFile.Cond) (x y : Int32) (t n : am_F) : am_R := match c with
  | .eq => .inr (.inl (x = y, t, n))
  | .ne => .inr (.inl (x = y, n, t))
  | .lt => .inr (.inl (x < y, t, n))
  | .ge => .inr (.inl (y ≤ x, t, n))
  | .gt => .inr (.inl (y < x, t, n))
  | .le => .inr (.inl (x ≤ y, t, n))
def am_if (c : ClassFile.Cond) (x : Int32) (t n : am_F) : am_R := match c with
  | .eq => .inr (.inl (x = 0, t, n))
  | .ne => .inr (.inl (x = 0, n, t))
  | .lt => .inr (.inl (x < 0, t, n))
  | .ge => .inr (.inl (0 ≤ x, t, n))
  | .gt => .inr (.inl (0 < x, t, n))
  | .le => .inr (.inl (x ≤ 0, t, n))
/-- new objects, by class: their fields as they are made -/
def am_blank : Nat → List Value
  | 0 => [.null, .int 0, .int 0]
  | 1 => [.null, .null, .int 0, .int 0]
  | 2 => [.null, .null, .null]
  | 3 => [.int 0, .int 0, .int 0, .int 0, .int 0, .int 0, .null, .null, .null, .null]
  | 4 => [.null, .null, .null]
  | 5 => [.null, .null, .null, .null, .null, .int 0, .int 0]
  | 6 => [.null, .null, .null]
  | 7 => [.null, .int 0, .int 0, .int 0]
  | 8 => [.null, .null, .null, .null, .null, .null, .null, .null, .null, .null, .null, .int 0, .int 0]
  | 9 => [.null, .int 0, .int 0, .null, .null, .null, .null, .null, .int 0, .int 0, .int 0, .null, .int 0, .int 0, .int 0, .int 0, .null, .null, .null]
  | _ => []

def am_i1 (st : List Value) (f : Int32 → List Value → am_R) : am_R := match st with
  | .int x :: r => f x r
  | _ => am_no
def am_i2 (st : List Value) (f : Int32 → Int32 → List Value → am_R) : am_R := match st with
  | .int y :: .int x :: r => f x y r
  | _ => am_no
def am_j1 (st : List Value) (f : Int64 → List Value → am_R) : am_R := match st with
  | .long x :: r => f x r
  | _ => am_no
def am_j2 (st : List Value) (f : Int64 → Int64 → List Value → am_R) : am_R := match st with
  | .long y :: .long x :: r => f x y r
  | _ => am_no
def am_r1 (st : List Value) (f : Nat → List Value → am_R) : am_R := match st with
  | .ref q :: r => f q r
  | _ => am_no
def am_v1 (st : List Value) (f : Value → List Value → am_R) : am_R := match st with
  | x :: r => f x r
  | _ => am_no
def am_ob (h : am_H) (q : Nat) (f : Nat → List Value → am_R) : am_R := match h[q]? with
  | some (.inr (ci, fs)) => f ci fs
  | _ => am_no
def am_ar (z : Bool) (h : am_H) (q : Nat) (f : Nat → (Nat → Int32) → am_R) : am_R := match h[q]? with
  | some (.inl (z', n, g)) => (match z', z with
    | true, true => f n g
    | false, false => f n g
    | _, _ => am_no)
  | _ => am_no
def am_bb (c : Bool) (x : am_R) : am_R := match c with
  | true => x
  | false => am_no
def am_lo (L : am_L) (a : Nat) (f : Value → am_R) : am_R := match L[a]? with
  | some (some v) => f v
  | _ => am_no
def am_vi (v : Value) (f : Int32 → am_R) : am_R := match v with
  | .int x => f x
  | _ => am_no
def am_vj (v : Value) (f : Int64 → am_R) : am_R := match v with
  | .long x => f x
  | _ => am_no
def am_va (v : Value) (f : Value → am_R) : am_R := match v with
  | .ref x => f (.ref x)
  | .retAddr x => f (.retAddr x)
  | _ => am_no
def am_vr (v : Value) (f : Nat → am_R) : am_R := match v with
  | .ref x => f x
  | _ => am_no
def am_sc (v : Value) (scr : Option (Nat × (Nat → Int32))) (f : Nat → (Nat → Int32) → am_R) : am_R := match v, scr with
  | .retAddr _, some (n, g) => f n g
  | _, _ => am_no
def am_pp (n : Nat) (st : List Value) (f : List Value → List Value → am_R) : am_R := match am_pop n [] st with
  | some (as, r) => f as r
  | none => am_no
def am_fl (fs : List Value) (k : Nat) (f : Value → am_R) : am_R := match fs[k]? with
  | some x => f x
  | none => am_no
def am_nil (st : List Value) (x : am_R) : am_R := match st with
  | [] => x
  | _ => am_no
def am_go (nx : Nat) (L : am_L) (st : List Value) (h : am_H) : am_R := .inl (nx, L, st, h)
def am_ck (c : Prop) (nx : Nat) (L : am_L) (st : List Value) (h : am_H) : am_R := .inr (.inr (.inl (c, (nx, L, st, h))))
def am_rt (c : Prop) (v : Option Value) : am_R := .inr (.inr (.inr (.inl (c, v))))
def am_cl (j : Nat) (as : List Value) (nx : Nat) (L : am_L) (st : List Value) (h : am_H) : am_R := .inr (.inr (.inr (.inr (.inl (j, as, (nx, L, st, h))))))
/-- a field is written: 0 an int, 1 a boolean, 2 a final one, by its maker -/
def am_pf (tg : Nat) (x : Value) (nx : Nat) (L : am_L) (r : List Value) (h : am_H) (q ci : Nat) (fs : List Value) (b : Nat) : am_R := match tg with
  | 0 => am_vi x (fun y => am_go nx L r (h.set q (.inr (ci, fs.set b (.int y)))))
  | 1 => am_vi x (fun y => am_ck (y = 0 ∨ y = 1) nx L r (h.set q (.inr (ci, fs.set b (.int y)))))
  | _ => am_vr x (fun y => am_go nx L r (h.set q (.inr (ci, fs.set b (.ref y)))))
/-- an int is read: out of an array of mine, or out of the script -/
def am_il (scr : Option (Nat × (Nat → Int32))) (i : Int32) (v : Value) (nx : Nat) (L : am_L) (r : List Value) (h : am_H) : am_R := match v with
  | .ref q => am_ar false h q (fun n f => am_ck (vp_in i n) nx L (.int (f i.toNatClampNeg) :: r) h)
  | v => am_sc v scr (fun n f => am_ck (vp_in i n) nx L (.int (f i.toNatClampNeg) :: r) h)
def am_na (ty : ArrayType) (n : Int32) (b nx : Nat) (L : am_L) (r : List Value) (h : am_H) : am_R := match ty with
  | .int => am_ck (n = nI b ∧ b ≤ 1000) nx L (.ref h.length :: r) (h ++ [.inl (false, b, fun _ => 0)])
  | .boolean => am_ck (n = nI b ∧ b ≤ 1000) nx L (.ref h.length :: r) (h ++ [.inl (true, b, fun _ => 0)])
  | _ => am_no
/-- a static method: Math.max, Math.min at once, the others by a call -/
def am_mst (a b nx : Nat) (L : am_L) (st : List Value) (h : am_H) : am_R := match Nat.beq a 228 with
  | true => am_i2 st (fun x y r => am_bb (Nat.ble (am_cats r) 8) (am_go nx L (.int (if x < y then y else x) :: r) h))
  | false => (match Nat.beq a 229 with
    | true => am_i2 st (fun x y r => am_bb (Nat.ble (am_cats r) 8) (am_go nx L (.int (if y < x then y else x) :: r) h))
    | false => am_pp b st (fun as r => am_bb (Nat.ble (am_cats r) 8) (am_cl a as nx L r h)))
/-- one instruction, at known locals, stack and cells -/
def am_step (scr : Option (Nat × (Nat → Int32))) (E : am_I) (L : am_L) (st : List Value) (h : am_H) : am_R := match E with
  | (ins, nx, tg, a, b, _, v, lv, sw) => (match ins with
    | .iconst _ => am_go nx L (.int v :: st) h
    | .bipush _ => am_go nx L (.int v :: st) h
    | .sipush _ => am_go nx L (.int v :: st) h
    | .ldc _ => am_go nx L (.int v :: st) h
    | .ldc_w _ => am_go nx L (.int v :: st) h
    | .lconst _ => am_go nx L (.long lv :: st) h
    | .ldc2_w _ => am_go nx L (.long lv :: st) h
    | .iload _ => am_lo L a (fun x => am_vi x (fun x => am_go nx L (.int x :: st) h))
    | .iload_n _ => am_lo L a (fun x => am_vi x (fun x => am_go nx L (.int x :: st) h))
    | .lload _ => am_lo L a (fun x => am_vj x (fun x => am_go nx L (.long x :: st) h))
    | .lload_n _ => am_lo L a (fun x => am_vj x (fun x => am_go nx L (.long x :: st) h))
    | .aload _ => am_lo L a (fun x => am_va x (fun x => am_go nx L (x :: st) h))
    | .aload_n _ => am_lo L a (fun x => am_va x (fun x => am_go nx L (x :: st) h))
    | .istore _ => am_i1 st (fun x r => am_put (am_st1 L a (.int x)) nx r h)
    | .istore_n _ => am_i1 st (fun x r => am_put (am_st1 L a (.int x)) nx r h)
    | .astore _ => am_r1 st (fun x r => am_put (am_st1 L a (.ref x)) nx r h)
    | .astore_n _ => am_r1 st (fun x r => am_put (am_st1 L a (.ref x)) nx r h)
    | .lstore _ => am_j1 st (fun x r => am_put (am_st2 L a (.long x)) nx r h)
    | .lstore_n _ => am_j1 st (fun x r => am_put (am_st2 L a (.long x)) nx r h)
    | .iinc _ _ => am_lo L a (fun x => am_vi x (fun x => am_put (am_st1 L a (.int (x + v))) nx st h))
    | .iadd => am_i2 st (fun x y r => am_go nx L (.int (x + y) :: r) h)
    | .isub => am_i2 st (fun x y r => am_go nx L (.int (x - y) :: r) h)
    | .imul => am_i2 st (fun x y r => am_go nx L (.int (x * y) :: r) h)
    | .iand => am_i2 st (fun x y r => am_go nx L (.int (x &&& y) :: r) h)
    | .ior => am_i2 st (fun x y r => am_go nx L (.int (x ||| y) :: r) h)
    | .ixor => am_i2 st (fun x y r => am_go nx L (.int (x ^^^ y) :: r) h)
    | .ishl => am_i2 st (fun x y r => am_go nx L (.int (x <<< (y &&& 31)) :: r) h)
    | .ishr => am_i2 st (fun x y r => am_go nx L (.int (x >>> (y &&& 31)) :: r) h)
    | .iushr => am_i2 st (fun x y r => am_go nx L (.int (x.toUInt32 >>> (y.toUInt32 &&& Int32.toUInt32 31)).toInt32 :: r) h)
    | .idiv => am_i2 st (fun x y r => am_ck (¬ y = 0) nx L (.int (x / y) :: r) h)
    | .irem => am_i2 st (fun x y r => am_ck (¬ y = 0) nx L (.int (x - x / y * y) :: r) h)
    | .ladd => am_j2 st (fun x y r => am_go nx L (.long (x + y) :: r) h)
    | .lmul => am_j2 st (fun x y r => am_go nx L (.long (x * y) :: r) h)
    | .lrem => am_j2 st (fun x y r => am_ck (¬ y = 0) nx L (.long (x - x / y * y) :: r) h)
    | .lcmp => am_j2 st (fun x y r => am_go nx L (.int (lg_cmp x y) :: r) h)
    | .ineg => am_i1 st (fun x r => am_go nx L (.int (-x) :: r) h)
    | .i2l => am_i1 st (fun x r => am_go nx L (.long x.toInt64 :: r) h)
    | .l2i => am_j1 st (fun x r => am_go nx L (.int x.toInt32 :: r) h)
    | .i2b => am_i1 st (fun x r => am_go nx L (.int x.toInt8.toInt32 :: r) h)
    | .i2s => am_i1 st (fun x r => am_go nx L (.int x.toInt16.toInt32 :: r) h)
    | .dup => am_v1 st (fun x r => am_bb (Nat.beq x.category 1) (am_go nx L (x :: x :: r) h))
    | .dup2 => am_v1 st (fun x r => am_v1 r (fun y r => am_bb (Nat.beq x.category 1) (am_bb (Nat.beq y.category 1) (am_go nx L (x :: y :: x :: y :: r) h))))
    | .pop => am_v1 st (fun x r => am_bb (Nat.beq x.category 1) (am_go nx L r h))
    | .goto _ => am_go tg L st h
    | .if_icmp c _ => am_i2 st (fun x y r => am_icmp c x y (tg, L, r, h) (nx, L, r, h))
    | .ifCond c _ => am_i1 st (fun x r => am_if c x (tg, L, r, h) (nx, L, r, h))
    | .tableswitch _ _ _ _ => am_i1 st (fun x r => am_go (am_pick x sw tg) L r h)
    | .lookupswitch _ _ => am_i1 st (fun x r => am_go (am_pick x sw tg) L r h)
    | .getfield _ => am_r1 st (fun q r => am_ob h q (fun ci fs => am_bb (Nat.beq ci a) (am_fl fs b (fun x => am_go nx L (x :: r) h))))
    | .putfield _ => am_v1 st (fun x r => am_r1 r (fun q r => am_ob h q (fun ci fs => am_bb (Nat.beq ci a) (am_bb (Nat.blt b fs.length) (am_pf tg x nx L r h q ci fs b)))))
    | .iaload => am_i1 st (fun i r => am_v1 r (fun v r => am_il scr i v nx L r h))
    | .baload => am_i1 st (fun i r => am_r1 r (fun q r => am_ar true h q (fun n f => am_ck (vp_in i n) nx L (.int (f i.toNatClampNeg) :: r) h)))
    | .iastore => am_i2 st (fun i x r => am_r1 r (fun q r => am_ar false h q (fun n f => am_ck (vp_in i n) nx L r (h.set q (.inl (false, n, upd f i.toNatClampNeg x))))))
    | .bastore => am_i2 st (fun i x r => am_r1 r (fun q r => am_ar true h q (fun n f => am_ck (vp_in i n) nx L r (h.set q (.inl (true, n, upd f i.toNatClampNeg (vp_nar .boolean x)))))))
    | .arraylength => am_v1 st (fun v r => am_sc v scr (fun n _ => am_go nx L (.int (Int32.ofNat n) :: r) h))
    | .new _ => am_go nx L (.ref h.length :: st) (h ++ [.inr (a, am_blank a)])
    | .newarray ty => am_i1 st (fun n r => am_na ty n b nx L r h)
    | .invokespecial _ => (match tg with
      | 2 => am_r1 st (fun _ r => am_bb (Nat.ble (am_cats r) 8) (am_go nx L r h))
      | _ => am_pp b st (fun as r => am_r1 r (fun q r => am_bb (Nat.ble (am_cats r) 8) (am_cl a (.ref q :: as) nx L r h))))
    | .invokevirtual _ => am_pp b st (fun as r => am_r1 r (fun q r => am_ob h q (fun ci _ => am_bb (Nat.beq ci tg) (am_bb (Nat.ble (am_cats r) 8) (am_cl a (.ref q :: as) nx L r h)))))
    | .invokestatic _ => (match tg with
      | 2 => am_i2 st (fun dp n r => am_r1 r (fun q1 r => am_i1 r (fun sp r => am_r1 r (fun q0 r => am_bb (Nat.ble (am_cats r) 8) (am_ar false h q0 (fun n0 f => am_ar false h q1 (fun n1 g => am_ck (¬ sp < 0 ∧ ¬ dp < 0 ∧ ¬ n < 0 ∧ sp.toNatClampNeg + n.toNatClampNeg ≤ n0 ∧ dp.toNatClampNeg + n.toNatClampNeg ≤ n1) nx L r (h.set q1 (.inl (false, n1, va_cpy f g sp.toNatClampNeg dp.toNatClampNeg n.toNatClampNeg))))))))))
      | _ => am_mst a b nx L st h)
    | .ireturn => am_i1 st (fun x r => am_nil r (match tg with
      | 0 => am_rt True (some (.int x))
      | _ => am_rt (x = 0 ∨ x = 1) (some (.int x))))
    | .areturn => am_r1 st (fun q r => am_nil r (am_rt True (some (.ref q))))
    | .return_ => am_nil st (am_rt True none)
    | _ => am_no)
/-- what an outcome asks of the places where it goes on, of its answer, of its call -/
def am_K (o : am_R) (K : am_F → Prop) (Kr : Prop → Option Value → Prop) (Kc : Nat → List Value → am_F → Prop) : Prop := match o with
  | .inl f => K f
  | .inr (.inl (c, f, g)) => (c → K f) ∧ (¬ c → K g)
  | .inr (.inr (.inl (c, f))) => c ∧ K f
  | .inr (.inr (.inr (.inl (c, w)))) => Kr c w
  | .inr (.inr (.inr (.inr (.inl (j, as, f))))) => Kc j as f
  | .inr (.inr (.inr (.inr (.inr _)))) => False
/-- a run: in at most n steps, the calls by C, it comes to an end with v and the cells h' -/
def am_run (scr : Option (Nat × (Nat → Int32))) (C : Nat → List Value → am_H → Option Value → am_H → Prop) (t : am_T) : Nat → am_F → Option Value → am_H → Prop
  | 0, _, _, _ => False
  | n + 1, f, v, h' => (match am_fetch t f.1 with
    | none => False
    | some E => am_K (am_step scr E f.2.1 f.2.2.1 f.2.2.2) (fun g => am_run scr C t n g v h') (fun c w => c ∧ v = w ∧ h' = f.2.2.2) (fun j as g => ∃ (w : Option Value) (h1 : am_H), C j as f.2.2.2 w h1 ∧ am_run scr C t n (g.1, g.2.1, w.toList ++ g.2.2.1, h1) v h'))
section
variable {K : am_F → Prop} {Kr : Prop → Option Value → Prop} {Kc : Nat → List Value → am_F → Prop}
theorem am_i1_inv {st : List Value} {f : Int32 → List Value → am_R} (hk : am_K (am_i1 st f) K Kr Kc) : ∃ (x : Int32) (r : List Value), st = .int x :: r ∧ am_K (f x r) K Kr Kc := by
  unfold am_i1 at hk
  split at hk
  · exact ⟨_, _, rfl, hk⟩
  · exact hk.elim
theorem am_i2_inv {st : List Value} {f : Int32 → Int32 → List Value → am_R} (hk : am_K (am_i2 st f) K Kr Kc) : ∃ (x y : Int32) (r : List Value), st = .int y :: .int x :: r ∧ am_K (f x y r) K Kr Kc := by
  unfold am_i2 at hk
  split at hk
  · exact ⟨_, _, _, rfl, hk⟩
  · exact hk.elim
theorem am_j1_inv {st : List Value} {f : Int64 → List Value → am_R} (hk : am_K (am_j1 st f) K Kr Kc) : ∃ (x : Int64) (r : List Value), st = .long x :: r ∧ am_K (f x r) K Kr Kc := by
  unfold am_j1 at hk
  split at hk
  · exact ⟨_, _, rfl, hk⟩
  · exact hk.elim
theorem am_j2_inv {st : List Value} {f : Int64 → Int64 → List Value → am_R} (hk : am_K (am_j2 st f) K Kr Kc) : ∃ (x y : Int64) (r : List Value), st = .long y :: .long x :: r ∧ am_K (f x y r) K Kr Kc := by
  unfold am_j2 at hk
  split at hk
  · exact ⟨_, _, _, rfl, hk⟩
  · exact hk.elim
theorem am_r1_inv {st : List Value} {f : Nat → List Value → am_R} (hk : am_K (am_r1 st f) K Kr Kc) : ∃ (x : Nat) (r : List Value), st = .ref x :: r ∧ am_K (f x r) K Kr Kc := by
  unfold am_r1 at hk
  split at hk
  · exact ⟨_, _, rfl, hk⟩
  · exact hk.elim
theorem am_v1_inv {st : List Value} {f : Value → List Value → am_R} (hk : am_K (am_v1 st f) K Kr Kc) : ∃ (x : Value) (r : List Value), st = x :: r ∧ am_K (f x r) K Kr Kc := by
  unfold am_v1 at hk
  split at hk
  · exact ⟨_, _, rfl, hk⟩
  · exact hk.elim
theorem am_ob_inv {h : am_H} {q : Nat} {f : Nat → List Value → am_R} (hk : am_K (am_ob h q f) K Kr Kc) : ∃ (ci : Nat) (fs : List Value), h[q]? = some (.inr (ci, fs)) ∧ am_K (f ci fs) K Kr Kc := by
  unfold am_ob at hk
  split at hk
  · exact ⟨_, _, by assumption, hk⟩
  · exact hk.elim
theorem am_lo_inv {L : am_L} {a : Nat} {f : Value → am_R} (hk : am_K (am_lo L a f) K Kr Kc) : ∃ v : Value, L[a]? = some (some v) ∧ am_K (f v) K Kr Kc := by
  unfold am_lo at hk
  split at hk
  · exact ⟨_, by assumption, hk⟩
  · exact hk.elim
theorem am_vi_inv {v : Value} {f : Int32 → am_R} (hk : am_K (am_vi v f) K Kr Kc) : ∃ x : Int32, v = .int x ∧ am_K (f x) K Kr Kc := by
  unfold am_vi at hk
  split at hk
  · exact ⟨_, rfl, hk⟩
  · exact hk.elim
theorem am_vj_inv {v : Value} {f : Int64 → am_R} (hk : am_K (am_vj v f) K Kr Kc) : ∃ x : Int64, v = .long x ∧ am_K (f x) K Kr Kc := by
  unfold am_vj at hk
  split at hk
  · exact ⟨_, rfl, hk⟩
  · exact hk.elim
theorem am_vr_inv {v : Value} {f : Nat → am_R} (hk : am_K (am_vr v f) K Kr Kc) : ∃ x : Nat, v = .ref x ∧ am_K (f x) K Kr Kc := by
  unfold am_vr at hk
  split at hk
  · exact ⟨_, rfl, hk⟩
  · exact hk.elim
theorem am_pp_inv {n : Nat} {st : List Value} {f : List Value → List Value → am_R} (hk : am_K (am_pp n st f) K Kr Kc) : ∃ as r : List Value, am_pop n [] st = some (as, r) ∧ am_K (f as r) K Kr Kc := by
  unfold am_pp at hk
  split at hk
  · exact ⟨_, _, by assumption, hk⟩
  · exact hk.elim
theorem am_fl_inv {fs : List Value} {k : Nat} {f : Value → am_R} (hk : am_K (am_fl fs k f) K Kr Kc) : ∃ x : Value, fs[k]? = some x ∧ am_K (f x) K Kr Kc := by
  unfold am_fl at hk
  split at hk
  · exact ⟨_, by assumption, hk⟩
  · exact hk.elim
theorem am_nil_inv {st : List Value} {x : am_R} (hk : am_K (am_nil st x) K Kr Kc) : st = [] ∧ am_K x K Kr Kc := by
  unfold am_nil at hk
  split at hk
  · exact ⟨rfl, hk⟩
  · exact hk.elim
theorem am_bb_inv {c : Bool} {x : am_R} (hk : am_K (am_bb c x) K Kr Kc) : c = true ∧ am_K x K Kr Kc := by
  unfold am_bb at hk
  split at hk
  · exact ⟨rfl, hk⟩
  · exact hk.elim
theorem am_va_inv {v : Value} {f : Value → am_R} (hk : am_K (am_va v f) K Kr Kc) : ((∃ x : Nat, v = .ref x) ∨ ∃ x : Nat, v = .retAddr x) ∧ am_K (f v) K Kr Kc := by
  unfold am_va at hk
  split at hk
  · exact ⟨Or.inl ⟨_, rfl⟩, hk⟩
  · exact ⟨Or.inr ⟨_, rfl⟩, hk⟩
  · exact hk.elim
theorem am_ar_inv {z : Bool} {h : am_H} {q : Nat} {f : Nat → (Nat → Int32) → am_R} (hk : am_K (am_ar z h q f) K Kr Kc) : ∃ (n : Nat) (g : Nat → Int32), h[q]? = some (.inl (z, n, g)) ∧ am_K (f n g) K Kr Kc := by
  unfold am_ar at hk
  split at hk
  · split at hk
    · exact ⟨_, _, by assumption, hk⟩
    · exact ⟨_, _, by assumption, hk⟩
    · exact hk.elim
  · exact hk.elim
theorem am_sc_inv {v : Value} {scr : Option (Nat × (Nat → Int32))} {f : Nat → (Nat → Int32) → am_R} (hk : am_K (am_sc v scr f) K Kr Kc) : ∃ (x n : Nat) (g : Nat → Int32), v = .retAddr x ∧ scr = some (n, g) ∧ am_K (f n g) K Kr Kc := by
  unfold am_sc at hk
  split at hk
  · exact ⟨_, _, _, rfl, rfl, hk⟩
  · exact hk.elim
theorem am_put_inv {o : Option am_L} {nx : Nat} {st : List Value} {h : am_H} (hk : am_K (am_put o nx st h) K Kr Kc) : ∃ L : am_L, o = some L ∧ K (nx, L, st, h) := by
  unfold am_put at hk
  split at hk
  · exact ⟨_, rfl, hk⟩
  · exact hk.elim
end
end
section
/-! what my machine's values, cells, locals are in the heap: cell i lies at b0 + i; the script at b -/
def am_cv (b0 b : Nat) : Value → Value
  | .ref i => .ref (b0 + i)
  | .retAddr _ => .ref b
  | v => v
def am_ce (b0 b : Nat) (cI cB : ClassId) : am_C → va_E
  | .inl (z, n, f) => .inl ((if z = true then cB else cI), n, .inl f)
  | .inr (ci, fs) => .inr (ci, fs.map (am_cv b0 b))
def am_cw (b0 b : Nat) (cI cB : ClassId) : Nat → am_H → va_W
  | _, [] => []
  | k, e :: h => (b0 + k, am_ce b0 b cI cB e) :: am_cw b0 b cI cB (k + 1) h
theorem am_cw_at {b0 b : Nat} {cI cB : ClassId} : ∀ (h : am_H) (k i : Nat), (am_cw b0 b cI cB k h)[i]? = (h[i]?).map (fun e => (b0 + (k + i), am_ce b0 b cI cB e))
  | [], k, i => by simp [am_cw]
  | e :: h, k, 0 => by simp [am_cw]
  | e :: h, k, i + 1 => by
    simp only [am_cw, List.getElem?_cons_succ]
    rw [am_cw_at h (k + 1) i, show k + 1 + i = k + (i + 1) by omega]
theorem am_cw_get {b0 b : Nat} {cI cB : ClassId} {h : am_H} {i : Nat} {e : am_C} (he : h[i]? = some e) : (am_cw b0 b cI cB 0 h)[i]? = some (b0 + i, am_ce b0 b cI cB e) := by
  rw [am_cw_at, he]; simp
theorem am_cw_set {b0 b : Nat} {cI cB : ClassId} {e : am_C} : ∀ (h : am_H) (k i : Nat), am_cw b0 b cI cB k (h.set i e) = (am_cw b0 b cI cB k h).set i (b0 + (k + i), am_ce b0 b cI cB e)
  | [], k, i => by simp [am_cw]
  | x :: h, k, 0 => by simp [am_cw]
  | x :: h, k, i + 1 => by
    simp only [am_cw, List.set_cons_succ]
    rw [am_cw_set h (k + 1) i, show k + 1 + i = k + (i + 1) by omega]
theorem am_cw_push {b0 b : Nat} {cI cB : ClassId} {e : am_C} : ∀ (h : am_H) (k : Nat), am_cw b0 b cI cB k (h ++ [e]) = am_cw b0 b cI cB k h ++ [(b0 + (k + h.length), am_ce b0 b cI cB e)]
  | [], k => by simp [am_cw]
  | x :: h, k => by
    simp only [am_cw, List.cons_append, List.length_cons]
    rw [am_cw_push h (k + 1), show k + 1 + h.length = k + (h.length + 1) by omega]
theorem am_cw_D {b0 b : Nat} {cI cB : ClassId} (h : am_H) : va_D (fun q => b0 ≤ q) (am_cw b0 b cI cB 0 h) := by
  have key : ∀ (i : Nat) (q : Nat × va_E), (am_cw b0 b cI cB 0 h)[i]? = some q → q.1 = b0 + i := by
    intro i q hq
    rw [am_cw_at] at hq
    cases he : h[i]? with
    | none => rw [he] at hq; cases hq
    | some e => rw [he] at hq; cases hq; simp
  refine ⟨fun i j p q hp hq hpq => ?_, fun k q hq => ?_⟩
  · have h1 := key i p hp
    have h2 := key j q hq
    omega
  · show b0 ≤ q.1
    rw [key k q hq]
    omega
def am_sz : am_C → Nat
  | .inl (_, n, _) => n
  | .inr (_, fs) => fs.length
def am_szs : am_H → Nat
  | [] => 0
  | e :: h => am_sz e + am_szs h
theorem am_szs_push (e : am_C) : ∀ h : am_H, am_szs (h ++ [e]) = am_szs h + am_sz e
  | [] => by simp [am_szs]
  | x :: h => by simp only [List.cons_append, am_szs, am_szs_push e h]; omega
theorem am_szs_set {e e0 : am_C} (hz : am_sz e = am_sz e0) : ∀ (h : am_H) (i : Nat), h[i]? = some e0 → am_szs (h.set i e) = am_szs h
  | [], i, h => by simp at h
  | x :: h, 0, hq => by
    simp at hq
    subst hq
    simp only [List.set_cons_zero, am_szs, hz]
  | x :: h, i + 1, hq => by
    rw [List.getElem?_cons_succ] at hq
    simp only [List.set_cons_succ, am_szs, am_szs_set hz h i hq]
def am_lh (b0 b : Nat) (ls : Array Slot) (nL : Nat) (L : am_L) : Prop := ls.size = nL ∧ lv_wf ls ∧ L.length = nL ∧ ∀ (i : Nat) (v : Value), L[i]? = some (some v) → ls[i]? = some (.val (am_cv b0 b v))
def am_ll (b0 b : Nat) : Nat → am_L → List (Nat × Value)
  | _, [] => []
  | k, none :: L => am_ll b0 b (k + 1) L
  | k, some v :: L => (k, am_cv b0 b v) :: am_ll b0 b (k + 1) L
theorem am_ll_in {b0 b : Nat} : ∀ (L : am_L) (k : Nat) (q : Nat × Value), q ∈ am_ll b0 b k L → ∃ (i : Nat) (v : Value), L[i]? = some (some v) ∧ q = (k + i, am_cv b0 b v)
  | [], k, q, h => by cases h
  | none :: L, k, q, h => by
    obtain ⟨i, v, h1, h2⟩ := am_ll_in L (k + 1) q h
    exact ⟨i + 1, v, by rw [List.getElem?_cons_succ]; exact h1, by rw [h2, show k + 1 + i = k + (i + 1) by omega]⟩
  | some w :: L, k, q, h => by
    rcases List.mem_cons.mp h with rfl | h
    · exact ⟨0, w, rfl, rfl⟩
    · obtain ⟨i, v, h1, h2⟩ := am_ll_in L (k + 1) q h
      exact ⟨i + 1, v, by rw [List.getElem?_cons_succ]; exact h1, by rw [h2, show k + 1 + i = k + (i + 1) by omega]⟩
theorem am_ll_of {b0 b : Nat} : ∀ (L : am_L) (k i : Nat) (v : Value), L[i]? = some (some v) → (k + i, am_cv b0 b v) ∈ am_ll b0 b k L
  | [], k, i, v, h => by simp at h
  | none :: L, k, 0, v, h => by simp at h
  | none :: L, k, i + 1, v, h => by
    rw [List.getElem?_cons_succ] at h
    rw [show k + (i + 1) = k + 1 + i by omega]
    exact am_ll_of L (k + 1) i v h
  | some w :: L, k, 0, v, h => by
    simp at h
    subst h
    exact List.mem_cons_self
  | some w :: L, k, i + 1, v, h => by
    rw [List.getElem?_cons_succ] at h
    rw [show k + (i + 1) = k + 1 + i by omega]
    exact List.mem_cons_of_mem _ (am_ll_of L (k + 1) i v h)
theorem am_lh_has {b0 b : Nat} {ls : Array Slot} {nL : Nat} {L : am_L} (h : am_lh b0 b ls nL L) : lv_has ls nL (am_ll b0 b 0 L) := by
  refine ⟨h.1, h.2.1, fun q hq => ?_⟩
  obtain ⟨i, v, h1, rfl⟩ := am_ll_in L 0 q hq
  rw [Nat.zero_add]
  exact h.2.2.2 i v h1
theorem am_cv_cat (b0 b : Nat) (v : Value) : (am_cv b0 b v).category = v.category := by cases v <;> rfl
theorem am_cats_eq (b0 b : Nat) : ∀ st : List Value, ((st.map (am_cv b0 b)).map fun v => v.category).sum = am_cats st
  | [] => rfl
  | v :: st => by
    simp only [List.map_cons, List.sum_cons, am_cats, am_cv_cat, am_cats_eq b0 b st]
theorem am_two_of {o : Option (Option Value)} (h : am_two o = false) (v : Value) (hv : o = some (some v)) : ¬ v.category = 2 := by
  subst hv
  cases v <;> simp [am_two, Value.category] at h ⊢
/-- the locals behind a store of one slot -/
theorem am_lh_st1 {b0 b : Nat} {ls ls' : Array Slot} {nL i : Nat} {L L' : am_L} {x : Value} (h : am_lh b0 b ls nL L) (hs : am_st1 L i x = some L') (h' : lv_has ls' nL ((i, am_cv b0 b x) :: (am_ll b0 b 0 L).filter (fun q => !(q.1 == i) && !(q.1 + 1 == i && q.2.category == 2)))) : am_lh b0 b ls' nL L' := by
  have key : L' = L.set i (some x) ∧ i < L.length ∧ ∀ j, i = j + 1 → am_two L[j]? = false := by
    unfold am_st1 at hs
    split at hs
    next hb =>
      have hlt : i < L.length := Nat.blt_eq.mp hb
      split at hs
      next => cases hs; exact ⟨rfl, hlt, fun j hj => by omega⟩
      next j =>
        split at hs
        next => cases hs
        next h2 => cases hs; exact ⟨rfl, hlt, fun j' hj => by cases hj; exact h2⟩
    next => cases hs
  obtain ⟨rfl, hlt, htwo⟩ := key
  refine ⟨h'.1, h'.2.1, by simpa using h.2.2.1, fun k v hk => ?_⟩
  by_cases hki : k = i
  · subst hki
    rw [List.getElem?_set_self hlt] at hk
    cases hk
    exact h'.2.2 (k, am_cv b0 b x) List.mem_cons_self
  · rw [List.getElem?_set_ne (fun z => hki z.symm)] at hk
    refine h'.2.2 (k, am_cv b0 b v) (List.mem_cons_of_mem _ (List.mem_filter.mpr ⟨?_, ?_⟩))
    · have := am_ll_of (b0 := b0) (b := b) L 0 k v hk
      rwa [Nat.zero_add] at this
    · simp only [am_cv_cat, Bool.and_eq_true, Bool.not_eq_true', beq_eq_false_iff_ne, Bool.and_eq_false_iff, ne_eq]
      refine ⟨hki, ?_⟩
      by_cases h1 : k + 1 = i
      · exact Or.inr (by simpa using am_two_of (htwo k h1.symm) v hk)
      · exact Or.inl h1
theorem am_lh_st2 {b0 b : Nat} {ls ls' : Array Slot} {nL i : Nat} {L L' : am_L} {x : Value} (h : am_lh b0 b ls nL L) (hs : am_st2 L i x = some L') (h' : lv_has ls' nL ((i, am_cv b0 b x) :: (am_ll b0 b 0 L).filter (fun q => !(q.1 == i) && (!(q.1 == i + 1) && !(q.1 + 1 == i && q.2.category == 2))))) : am_lh b0 b ls' nL L' := by
  have key : L' = (L.set i (some x)).set (i + 1) none ∧ i + 1 < L.length ∧ ∀ j, i = j + 1 → am_two L[j]? = false := by
    unfold am_st2 at hs
    split at hs
    next hb =>
      have hlt : i + 1 < L.length := Nat.blt_eq.mp hb
      split at hs
      next => cases hs; exact ⟨rfl, hlt, fun j hj => by omega⟩
      next j =>
        split at hs
        next => cases hs
        next h2 => cases hs; exact ⟨rfl, hlt, fun j' hj => by cases hj; exact h2⟩
    next => cases hs
  obtain ⟨rfl, hlt, htwo⟩ := key
  refine ⟨h'.1, h'.2.1, by simpa using h.2.2.1, fun k v hk => ?_⟩
  by_cases hk1 : k = i + 1
  · subst hk1
    rw [List.getElem?_set_self (by simpa using hlt)] at hk
    cases hk
  rw [List.getElem?_set_ne (fun z => hk1 z.symm)] at hk
  by_cases hki : k = i
  · subst hki
    rw [List.getElem?_set_self (by omega)] at hk
    cases hk
    exact h'.2.2 (k, am_cv b0 b x) List.mem_cons_self
  · rw [List.getElem?_set_ne (fun z => hki z.symm)] at hk
    refine h'.2.2 (k, am_cv b0 b v) (List.mem_cons_of_mem _ (List.mem_filter.mpr ⟨?_, ?_⟩))
    · have := am_ll_of (b0 := b0) (b := b) L 0 k v hk
      rwa [Nat.zero_add] at this
    · simp only [am_cv_cat, Bool.and_eq_true, Bool.not_eq_true', beq_eq_false_iff_ne, Bool.and_eq_false_iff, ne_eq]
      refine ⟨hki, hk1, ?_⟩
      by_cases h1 : k + 1 = i
      · exact Or.inr (by simpa using am_two_of (htwo k h1.symm) v hk)
      · exact Or.inl h1
theorem am_st1_lt {L L' : am_L} {i : Nat} {x : Value} (hs : am_st1 L i x = some L') : i < L.length := by
  unfold am_st1 at hs
  split at hs
  next hb => exact Nat.blt_eq.mp hb
  next => cases hs
theorem am_st2_lt {L L' : am_L} {i : Nat} {x : Value} (hs : am_st2 L i x = some L') : i + 1 < L.length := by
  unfold am_st2 at hs
  split at hs
  next hb => exact Nat.blt_eq.mp hb
  next => cases hs
theorem am_pop_eq : ∀ (n : Nat) (acc st as r : List Value), am_pop n acc st = some (as, r) → ∃ xs : List Value, xs.length = n ∧ as = xs ++ acc ∧ st = xs.reverse ++ r
  | 0, acc, st, as, r, h => by cases h; exact ⟨[], rfl, rfl, rfl⟩
  | n + 1, acc, [], as, r, h => by cases h
  | n + 1, acc, v :: st, as, r, h => by
    obtain ⟨xs, h1, h2, h3⟩ := am_pop_eq n (v :: acc) st as r h
    exact ⟨xs ++ [v], by simp [h1], by simp [h2], by simp [h3]⟩
end
section
/-! an instruction of my machine is one of the JVM's -/
def am_rep (b0 b : Nat) (cI cB : ClassId) (dC : Nat → ClassId) (dI : Nat → Nat → Nat) (s : State) (nL : Nat) (H : Heap) (locs : List Loc) (ls : Array Slot) (L : am_L) (h : am_H) : Prop :=
  va_P (dC, dI) vwCl (am_cw b0 b cI cB 0 h) H ∧ va_S (fun q => b0 ≤ q) s.heap H locs ∧ am_lh b0 b ls nL L
/-- what a frame stands on -/
def am_ctx (p : Program) (s : State) (m : MethodId) (args : Array Value) (meth : Method) (c : Code) (b0 b : Nat) (cI cB : ClassId) (dC : Nat → ClassId) (dI : Nat → Nat → Nat) (cc : ByteArray) (own mnm : String) (nL n0 : Nat) (scr : Option (Nat × (Nat → Int32))) : Prop :=
  p.tables.exec = Jvm.exec ∧ c.code = cc ∧ c.maxLocals = nL ∧ s.vm.findClass own = some m.cls ∧ (∀ w ∈ am_ws, w.before args s = true) ∧ va_K (dC, dI) vwCl [(cI, .int), (cB, .boolean)] s ∧ (mnm = "<init>" → meth.name = mnm) ∧ s.heap.size = b0 + n0 ∧ ∀ (n : Nat) (xs : Nat → Int32), scr = some (n, xs) → va_X b n xs s s.heap ∧ b < b0
def am_cont (p : Program) (l : Launch) (e : Env) (R : Room) (s : State) (m : MethodId) (args : Array Value) (below : List Frame) (meth : Method) (c : Code) (Q : State → Prop) (b0 b : Nat) (cI cB : ClassId) (dC : Nat → ClassId) (dI : Nat → Nat → Nat) (nL n0 z0 : Nat) (f : am_F) : Prop :=
  (f.2.2.2.length ≤ R.cells + n0 ∧ am_szs f.2.2.2 ≤ R.slots + z0) ∧ ∀ (H : Heap) (locs : List Loc) (ls : Array Slot) (cells slots : Nat), am_rep b0 b cI cB dC dI s nL H locs ls f.2.1 f.2.2.2 → cells + n0 = f.2.2.2.length → slots + z0 = am_szs f.2.2.2 → W p l e R s m args below meth c H locs cells slots Q (F0 m f.1 ls (f.2.2.1.map (am_cv b0 b)))
theorem am_len_eq {pc n nx : Nat} (h : am_len pc n nx = true) : nx = pc + n := Nat.eq_of_beq_eq_true h
theorem am_dec {cc : ByteArray} {pc n nx : Nat} {i : Instr} (h : decode cc pc = .ok (i, nx - pc)) (hl : am_len pc n nx = true) : nx = pc + n ∧ decode cc pc = .ok (i, n) := by
  have e := am_len_eq hl
  subst e
  rw [Nat.add_sub_cancel_left] at h
  exact ⟨rfl, h⟩
theorem am_and {x y : Bool} (h : (x && y) = true) : x = true ∧ y = true := by simpa using h
theorem am_beq {a b : Nat} (h : Nat.beq a b = true) : a = b := Nat.eq_of_beq_eq_true h
/-- a class of the list: its fields' types, its words -/
theorem am_cls : ∀ (ci : Nat) (q : vw_C), vwCl[ci]? = some q → (∀ k, k < q.2.2 → parseFieldDescriptor (q.2.1 k).2.2.1 = some (am_ty ci k)) ∧ (∀ a, a < q.2.2 → ∀ b, b < q.2.2 → a ≠ b → (q.2.1 a).2.1 ≠ (q.2.1 b).2.1) ∧ (∀ w ∈ u_ws q.1 q.2.1 q.2.2, w ∈ am_ws) ∧ Jvm.Cond.instantiable q.1 q.2.2 ∈ am_ws ∧ Jvm.Cond.initialized q.1 ∈ am_ws ∧ (∀ j, j < q.2.2 → defaultValue (am_ty ci j) = vp_V (am_blank ci) j) ∧ (am_blank ci).length = q.2.2
  | 0, _, h => by
    cases h
    exact ⟨tyX0_ok, nmX0, by decide +kernel, by decide +kernel, by decide +kernel, by decide +kernel, by decide +kernel⟩
  | 1, _, h => by
    cases h
    exact ⟨tyX1_ok, nmX1, by decide +kernel, by decide +kernel, by decide +kernel, by decide +kernel, by decide +kernel⟩
  | 2, _, h => by
    cases h
    exact ⟨tyX2_ok, nmX2, by decide +kernel, by decide +kernel, by decide +kernel, by decide +kernel, by decide +kernel⟩
  | 3, _, h => by
    cases h
    exact ⟨tyX3_ok, nmX3, by decide +kernel, by decide +kernel, by decide +kernel, by decide +kernel, by decide +kernel⟩
  | 4, _, h => by
    cases h
    exact ⟨tyX4_ok, nmX4, by decide +kernel, by decide +kernel, by decide +kernel, by decide +kernel, by decide +kernel⟩
  | 5, _, h => by
    cases h
    exact ⟨tyX5_ok, nmX5, by decide +kernel, by decide +kernel, by decide +kernel, by decide +kernel, by decide +kernel⟩
  | 6, _, h => by
    cases h
    exact ⟨tyX6_ok, nmX6, by decide +kernel, by decide +kernel, by decide +kernel, by decide +kernel, by decide +kernel⟩
  | 7, _, h => by
    cases h
    exact ⟨tyX7_ok, nmX7, by decide +kernel, by decide +kernel, by decide +kernel, by decide +kernel, by decide +kernel⟩
  | 8, _, h => by
    cases h
    exact ⟨tyX8_ok, nmX8, by decide +kernel, by decide +kernel, by decide +kernel, by decide +kernel, by decide +kernel⟩
  | 9, _, h => by
    cases h
    exact ⟨tyX9_ok, nmX9, by decide +kernel, by decide +kernel, by decide +kernel, by decide +kernel, by decide +kernel⟩
  | n + 10, q, h => by simp [vwCl] at h
theorem am_szs_setF {h : am_H} {q ci ci' b : Nat} {fs : List Value} {v : Value} (hq : h[q]? = some (.inr (ci, fs))) : am_szs (h.set q (.inr (ci', fs.set b v))) = am_szs h := am_szs_set (by simp [am_sz]) h q hq
theorem am_szs_setA {h : am_H} {q n : Nat} {z z' : Bool} {g g' : Nat → Int32} (hq : h[q]? = some (.inl (z, n, g))) : am_szs (h.set q (.inl (z', n, g'))) = am_szs h := am_szs_set (e := .inl (z', n, g')) (e0 := .inl (z, n, g)) rfl h q hq
theorem am_il_inv {K : am_F → Prop} {Kr : Prop → Option Value → Prop} {Kc : Nat → List Value → am_F → Prop} {scr : Option (Nat × (Nat → Int32))} {i : Int32} {v : Value} {nx : Nat} {L : am_L} {r : List Value} {h : am_H} (hk : am_K (am_il scr i v nx L r h) K Kr Kc) : (∃ (q n : Nat) (g : Nat → Int32), v = .ref q ∧ h[q]? = some (.inl (false, n, g)) ∧ vp_in i n ∧ K (nx, L, .int (g i.toNatClampNeg) :: r, h)) ∨ ∃ (x n : Nat) (g : Nat → Int32), v = .retAddr x ∧ scr = some (n, g) ∧ vp_in i n ∧ K (nx, L, .int (g i.toNatClampNeg) :: r, h) := by
  unfold am_il at hk
  split at hk
  · obtain ⟨n, g, hq, h1, h2⟩ := am_ar_inv hk
    exact Or.inl ⟨_, n, g, rfl, hq, h1, h2⟩
  · obtain ⟨x, n, g, e1, e2, h1, h2⟩ := am_sc_inv hk
    exact Or.inr ⟨x, n, g, e1, e2, h1, h2⟩
theorem am_hts {args : Array Value} {s : State} (hts : ∀ w ∈ am_ws, w.before args s = true) {i : Nat} {w : Jvm.Cond} (h : lw_tbl[i]? = some w) (hk : am_kw w = true) : w.before args s = true := hts w (am_in h hk)
theorem am_sws_pick {pc : Nat} {x : Int32} {d : Nat} : ∀ (os : List Int) (sw : List (Int32 × Nat)) (lo : Int), am_sws pc lo os sw = true →
    ((lo ≤ x.toInt ∧ x.toInt < lo + os.length) → ∃ off, os[(x.toInt - lo).toNat]? = some off ∧ (pc : Int) + off = (am_pick x sw d : Int)) ∧ (¬ (lo ≤ x.toInt ∧ x.toInt < lo + os.length) → am_pick x sw d = d)
  | [], [], lo, _ => ⟨fun h => by simp at h; omega, fun _ => rfl⟩
  | [], _ :: _, lo, h => by simp [am_sws] at h
  | _ :: _, [], lo, h => by simp [am_sws] at h
  | o :: os, (k, t) :: r, lo, h => by
    simp only [am_sws, Bool.and_eq_true, decide_eq_true_eq] at h
    obtain ⟨⟨h1, h2⟩, h3⟩ := h
    obtain ⟨i1, i2⟩ := am_sws_pick (pc := pc) (x := x) (d := d) os r (lo + 1) h3
    by_cases hx : x = k
    · subst hx
      refine ⟨fun _ => ⟨o, ?_, ?_⟩, fun hn => ?_⟩
      · rw [h1]; simp
      · simp only [am_pick, if_true]; exact h2
      · exfalso; apply hn; rw [h1]; simp; omega
    · have hne : x.toInt ≠ lo := fun z => hx (Int32.toInt_inj.mp (z.trans h1.symm))
      simp only [am_pick, if_neg hx, List.length_cons]
      refine ⟨fun hb => ?_, fun hn => i2 (fun hb => hn ?_)⟩
      · obtain ⟨off, e1, e2⟩ := i1 (by push_cast at hb ⊢; omega)
        refine ⟨off, ?_, e2⟩
        rw [show (x.toInt - lo).toNat = (x.toInt - (lo + 1)).toNat + 1 by omega, List.getElem?_cons_succ]
        exact e1
      · push_cast at hb ⊢; omega
theorem am_swl_pick {pc : Nat} {x : Int32} {d : Nat} {dd : Int} (hd : (pc : Int) + dd = (d : Int)) : ∀ (ps : List (Int × Int)) (sw : List (Int32 × Nat)), am_swl pc ps sw = true → (pc : Int) + Op.lookupswitch.offset ps dd x.toInt = (am_pick x sw d : Int)
  | [], [], _ => by simpa [Op.lookupswitch.offset, am_pick] using hd
  | [], _ :: _, h => by simp [am_swl] at h
  | _ :: _, [], h => by simp [am_swl] at h
  | (n, o) :: ps, (k, t) :: r, h => by
    simp only [am_swl, Bool.and_eq_true, decide_eq_true_eq] at h
    obtain ⟨⟨h1, h2⟩, h3⟩ := h
    have ih := am_swl_pick (x := x) hd ps r h3
    by_cases hx : x = k
    · subst hx
      simp only [am_pick, if_true]
      rw [← h2]
      simp [Op.lookupswitch.offset, h1]
    · have hne : ¬ n = x.toInt := fun z => hx (Int32.toInt_inj.mp (z.symm.trans h1.symm))
      simp only [am_pick, if_neg hx]
      rw [← ih]
      simp [Op.lookupswitch.offset, hne]
section
variable {p : Program} {l : Launch} {e : Env} {R : Room} {s : State} {m : MethodId} {args : Array Value} {below : List Frame} {meth : Method} {c : Code} {Q : State → Prop}
variable {b0 b : Nat} {cI cB : ClassId} {dC : Nat → ClassId} {dI : Nat → Nat → Nat} {cc : ByteArray} {own mnm : String} {nL n0 z0 : Nat} {ret : Option FieldType} {scr : Option (Nat × (Nat → Int32))} {mt : Nat → Option (MethodName × Nat × Nat)}
variable {H : Heap} {locs : List Loc} {ls : Array Slot} {cells slots pc : Nat} {L : am_L} {st : List Value} {h : am_H} {Kr : Prop → Option Value → Prop} {Kc : Nat → List Value → am_F → Prop}
theorem am_blank_map (a j : Nat) : vp_V (am_blank a) j = vp_V ((am_blank a).map (am_cv b0 b)) j := by
  have : (am_blank a).map (am_cv b0 b) = am_blank a := by
    unfold am_blank
    split <;> rfl
  rw [this]
theorem am_W_size (hz0 : s.heap.size = b0 + n0) (hcells : cells + n0 = h.length) (hP : va_P (dC, dI) vwCl (am_cw b0 b cI cB 0 h) H) (hS : va_S (fun q => b0 ≤ q) s.heap H locs) {g : JFrame} (k : H.size = b0 + h.length → W p l e R s m args below meth c H locs cells slots Q g) : W p l e R s m args below meth c H locs cells slots Q g := by
  intro T hT X
  refine k ?_ T hT X
  have h1 := X.heapSize
  rw [hT] at h1
  have h2 := hS.1
  cases hn : h.length with
  | zero => omega
  | succ n =>
    have hlt : n < h.length := by omega
    have h3 := (hP n _ (am_cw_get (List.getElem?_eq_getElem hlt))).lt
    dsimp only at h3
    omega
set_option maxHeartbeats 1000000 in
theorem am_s_iconst {E : am_I} (hc : am_ctx p s m args meth c b0 b cI cB dC dI cc own mnm nL n0 scr) (hroom : 1 ≤ R.frames ∧ 100 ≤ R.locals) (hrep : am_rep b0 b cI cB dC dI s nL H locs ls L h) (hcells : cells + n0 = h.length) (hslots : slots + z0 = am_szs h) {n : Int} {nx tg a b' w : Nat} {v : Int32} {lv : Int64} {sw : List (Int32 × Nat)} (hE : E = (.iconst n, nx, tg, a, b', w, v, lv, sw)) (hok : am_ok1 mt own mnm cc nL ret pc E = true)
    (hk : am_K (am_step scr E L st h) (am_cont p l e R s m args below meth c Q b0 b cI cB dC dI nL n0 z0) Kr Kc) : W p l e R s m args below meth c H locs cells slots Q (F0 m pc ls (st.map (am_cv b0 b))) := by
  subst hE
  obtain ⟨hd0, hok⟩ := am_and hok
  have hd0 := of_decide_eq_true hd0
  obtain ⟨hx, hb, hml, hown, hts, hK, hmn, hb0, hsc⟩ := hc
  obtain ⟨hP, hS, hL⟩ := hrep
  obtain ⟨hl, hv⟩ := am_and hok
  obtain ⟨e9, hd⟩ := am_dec hd0 hl
  subst e9
  have hk : am_cont p l e R s m args below meth c Q b0 b cI cB dC dI nL n0 z0 (_, L, .int v :: st, h) := hk
  exact lv_iconst hx hb hd (of_decide_eq_true hv) (hk.2 H locs ls cells slots ⟨hP, hS, hL⟩ hcells hslots)
set_option maxHeartbeats 1000000 in
theorem am_s_bipush {E : am_I} (hc : am_ctx p s m args meth c b0 b cI cB dC dI cc own mnm nL n0 scr) (hroom : 1 ≤ R.frames ∧ 100 ≤ R.locals) (hrep : am_rep b0 b cI cB dC dI s nL H locs ls L h) (hcells : cells + n0 = h.length) (hslots : slots + z0 = am_szs h) {n : Int} {nx tg a b' w : Nat} {v : Int32} {lv : Int64} {sw : List (Int32 × Nat)} (hE : E = (.bipush n, nx, tg, a, b', w, v, lv, sw)) (hok : am_ok1 mt own mnm cc nL ret pc E = true)
    (hk : am_K (am_step scr E L st h) (am_cont p l e R s m args below meth c Q b0 b cI cB dC dI nL n0 z0) Kr Kc) : W p l e R s m args below meth c H locs cells slots Q (F0 m pc ls (st.map (am_cv b0 b))) := by
  subst hE
  obtain ⟨hd0, hok⟩ := am_and hok
  have hd0 := of_decide_eq_true hd0
  obtain ⟨hx, hb, hml, hown, hts, hK, hmn, hb0, hsc⟩ := hc
  obtain ⟨hP, hS, hL⟩ := hrep
  obtain ⟨hl, hv⟩ := am_and hok
  obtain ⟨e9, hd⟩ := am_dec hd0 hl
  subst e9
  have hk : am_cont p l e R s m args below meth c Q b0 b cI cB dC dI nL n0 z0 (_, L, .int v :: st, h) := hk
  exact lv_bipush hx hb hd (of_decide_eq_true hv) (hk.2 H locs ls cells slots ⟨hP, hS, hL⟩ hcells hslots)
set_option maxHeartbeats 1000000 in
theorem am_s_sipush {E : am_I} (hc : am_ctx p s m args meth c b0 b cI cB dC dI cc own mnm nL n0 scr) (hroom : 1 ≤ R.frames ∧ 100 ≤ R.locals) (hrep : am_rep b0 b cI cB dC dI s nL H locs ls L h) (hcells : cells + n0 = h.length) (hslots : slots + z0 = am_szs h) {n : Int} {nx tg a b' w : Nat} {v : Int32} {lv : Int64} {sw : List (Int32 × Nat)} (hE : E = (.sipush n, nx, tg, a, b', w, v, lv, sw)) (hok : am_ok1 mt own mnm cc nL ret pc E = true)
    (hk : am_K (am_step scr E L st h) (am_cont p l e R s m args below meth c Q b0 b cI cB dC dI nL n0 z0) Kr Kc) : W p l e R s m args below meth c H locs cells slots Q (F0 m pc ls (st.map (am_cv b0 b))) := by
  subst hE
  obtain ⟨hd0, hok⟩ := am_and hok
  have hd0 := of_decide_eq_true hd0
  obtain ⟨hx, hb, hml, hown, hts, hK, hmn, hb0, hsc⟩ := hc
  obtain ⟨hP, hS, hL⟩ := hrep
  obtain ⟨hl, hv⟩ := am_and hok
  obtain ⟨e9, hd⟩ := am_dec hd0 hl
  subst e9
  have hk : am_cont p l e R s m args below meth c Q b0 b cI cB dC dI nL n0 z0 (_, L, .int v :: st, h) := hk
  exact lv_sipush hx hb hd (of_decide_eq_true hv) (hk.2 H locs ls cells slots ⟨hP, hS, hL⟩ hcells hslots)
set_option maxHeartbeats 1000000 in
theorem am_s_lconst {E : am_I} (hc : am_ctx p s m args meth c b0 b cI cB dC dI cc own mnm nL n0 scr) (hroom : 1 ≤ R.frames ∧ 100 ≤ R.locals) (hrep : am_rep b0 b cI cB dC dI s nL H locs ls L h) (hcells : cells + n0 = h.length) (hslots : slots + z0 = am_szs h) {n : Fin 2} {nx tg a b' w : Nat} {v : Int32} {lv : Int64} {sw : List (Int32 × Nat)} (hE : E = (.lconst n, nx, tg, a, b', w, v, lv, sw)) (hok : am_ok1 mt own mnm cc nL ret pc E = true)
    (hk : am_K (am_step scr E L st h) (am_cont p l e R s m args below meth c Q b0 b cI cB dC dI nL n0 z0) Kr Kc) : W p l e R s m args below meth c H locs cells slots Q (F0 m pc ls (st.map (am_cv b0 b))) := by
  subst hE
  obtain ⟨hd0, hok⟩ := am_and hok
  have hd0 := of_decide_eq_true hd0
  obtain ⟨hx, hb, hml, hown, hts, hK, hmn, hb0, hsc⟩ := hc
  obtain ⟨hP, hS, hL⟩ := hrep
  obtain ⟨hl, hv⟩ := am_and hok
  obtain ⟨e9, hd⟩ := am_dec hd0 hl
  subst e9
  have hk : am_cont p l e R s m args below meth c Q b0 b cI cB dC dI nL n0 z0 (_, L, .long lv :: st, h) := hk
  exact lv_lconst hx hb hd (of_decide_eq_true hv) (hk.2 H locs ls cells slots ⟨hP, hS, hL⟩ hcells hslots)
set_option maxHeartbeats 1000000 in
theorem am_s_ldc {E : am_I} (hc : am_ctx p s m args meth c b0 b cI cB dC dI cc own mnm nL n0 scr) (hroom : 1 ≤ R.frames ∧ 100 ≤ R.locals) (hrep : am_rep b0 b cI cB dC dI s nL H locs ls L h) (hcells : cells + n0 = h.length) (hslots : slots + z0 = am_szs h) {n : Nat} {nx tg a b' w : Nat} {v : Int32} {lv : Int64} {sw : List (Int32 × Nat)} (hE : E = (.ldc n, nx, tg, a, b', w, v, lv, sw)) (hok : am_ok1 mt own mnm cc nL ret pc E = true)
    (hk : am_K (am_step scr E L st h) (am_cont p l e R s m args below meth c Q b0 b cI cB dC dI nL n0 z0) Kr Kc) : W p l e R s m args below meth c H locs cells slots Q (F0 m pc ls (st.map (am_cv b0 b))) := by
  subst hE
  obtain ⟨hd0, hok⟩ := am_and hok
  have hd0 := of_decide_eq_true hd0
  obtain ⟨hx, hb, hml, hown, hts, hK, hmn, hb0, hsc⟩ := hc
  obtain ⟨hP, hS, hL⟩ := hrep
  obtain ⟨hl, hv⟩ := am_and hok
  obtain ⟨e9, hd⟩ := am_dec hd0 hl
  subst e9
  have hk : am_cont p l e R s m args below meth c Q b0 b cI cB dC dI nL n0 z0 (_, L, .int v :: st, h) := hk
  exact lv_ldc hx hb hown (am_hts hts (of_decide_eq_true hv) rfl) hd (hk.2 H locs ls cells slots ⟨hP, hS, hL⟩ hcells hslots)
set_option maxHeartbeats 1000000 in
theorem am_s_ldc_w {E : am_I} (hc : am_ctx p s m args meth c b0 b cI cB dC dI cc own mnm nL n0 scr) (hroom : 1 ≤ R.frames ∧ 100 ≤ R.locals) (hrep : am_rep b0 b cI cB dC dI s nL H locs ls L h) (hcells : cells + n0 = h.length) (hslots : slots + z0 = am_szs h) {n : Nat} {nx tg a b' w : Nat} {v : Int32} {lv : Int64} {sw : List (Int32 × Nat)} (hE : E = (.ldc_w n, nx, tg, a, b', w, v, lv, sw)) (hok : am_ok1 mt own mnm cc nL ret pc E = true)
    (hk : am_K (am_step scr E L st h) (am_cont p l e R s m args below meth c Q b0 b cI cB dC dI nL n0 z0) Kr Kc) : W p l e R s m args below meth c H locs cells slots Q (F0 m pc ls (st.map (am_cv b0 b))) := by
  subst hE
  obtain ⟨hd0, hok⟩ := am_and hok
  have hd0 := of_decide_eq_true hd0
  obtain ⟨hx, hb, hml, hown, hts, hK, hmn, hb0, hsc⟩ := hc
  obtain ⟨hP, hS, hL⟩ := hrep
  obtain ⟨hl, hv⟩ := am_and hok
  obtain ⟨e9, hd⟩ := am_dec hd0 hl
  subst e9
  have hk : am_cont p l e R s m args below meth c Q b0 b cI cB dC dI nL n0 z0 (_, L, .int v :: st, h) := hk
  exact lv_ldcw hx hb hown (am_hts hts (of_decide_eq_true hv) rfl) hd (hk.2 H locs ls cells slots ⟨hP, hS, hL⟩ hcells hslots)
set_option maxHeartbeats 1000000 in
theorem am_s_ldc2_w {E : am_I} (hc : am_ctx p s m args meth c b0 b cI cB dC dI cc own mnm nL n0 scr) (hroom : 1 ≤ R.frames ∧ 100 ≤ R.locals) (hrep : am_rep b0 b cI cB dC dI s nL H locs ls L h) (hcells : cells + n0 = h.length) (hslots : slots + z0 = am_szs h) {n : Nat} {nx tg a b' w : Nat} {v : Int32} {lv : Int64} {sw : List (Int32 × Nat)} (hE : E = (.ldc2_w n, nx, tg, a, b', w, v, lv, sw)) (hok : am_ok1 mt own mnm cc nL ret pc E = true)
    (hk : am_K (am_step scr E L st h) (am_cont p l e R s m args below meth c Q b0 b cI cB dC dI nL n0 z0) Kr Kc) : W p l e R s m args below meth c H locs cells slots Q (F0 m pc ls (st.map (am_cv b0 b))) := by
  subst hE
  obtain ⟨hd0, hok⟩ := am_and hok
  have hd0 := of_decide_eq_true hd0
  obtain ⟨hx, hb, hml, hown, hts, hK, hmn, hb0, hsc⟩ := hc
  obtain ⟨hP, hS, hL⟩ := hrep
  obtain ⟨hl, hv⟩ := am_and hok
  obtain ⟨e9, hd⟩ := am_dec hd0 hl
  subst e9
  have hk : am_cont p l e R s m args below meth c Q b0 b cI cB dC dI nL n0 z0 (_, L, .long lv :: st, h) := hk
  exact lv_ldc2 hx hb hown (am_hts hts (of_decide_eq_true hv) rfl) hd (hk.2 H locs ls cells slots ⟨hP, hS, hL⟩ hcells hslots)
set_option maxHeartbeats 1000000 in
theorem am_s_iload {E : am_I} (hc : am_ctx p s m args meth c b0 b cI cB dC dI cc own mnm nL n0 scr) (hroom : 1 ≤ R.frames ∧ 100 ≤ R.locals) (hrep : am_rep b0 b cI cB dC dI s nL H locs ls L h) (hcells : cells + n0 = h.length) (hslots : slots + z0 = am_szs h) {i : Nat} {nx tg a b' w : Nat} {v : Int32} {lv : Int64} {sw : List (Int32 × Nat)} (hE : E = (.iload i, nx, tg, a, b', w, v, lv, sw)) (hok : am_ok1 mt own mnm cc nL ret pc E = true)
    (hk : am_K (am_step scr E L st h) (am_cont p l e R s m args below meth c Q b0 b cI cB dC dI nL n0 z0) Kr Kc) : W p l e R s m args below meth c H locs cells slots Q (F0 m pc ls (st.map (am_cv b0 b))) := by
  subst hE
  obtain ⟨hd0, hok⟩ := am_and hok
  have hd0 := of_decide_eq_true hd0
  obtain ⟨hx, hb, hml, hown, hts, hK, hmn, hb0, hsc⟩ := hc
  obtain ⟨hP, hS, hL⟩ := hrep
  obtain ⟨hl, hv⟩ := am_and hok
  obtain ⟨e9, hd⟩ := am_dec hd0 hl
  subst e9
  cases am_beq hv
  obtain ⟨x, h1, hk⟩ := am_lo_inv hk
  obtain ⟨x, rfl, hk⟩ := am_vi_inv hk
  have hk : am_cont p l e R s m args below meth c Q b0 b cI cB dC dI nL n0 z0 (_, L, .int x :: st, h) := hk
  exact lv_iload hx hb hd (hL.2.2.2 _ _ h1) (hk.2 H locs ls cells slots ⟨hP, hS, hL⟩ hcells hslots)
set_option maxHeartbeats 1000000 in
theorem am_s_iload_n {E : am_I} (hc : am_ctx p s m args meth c b0 b cI cB dC dI cc own mnm nL n0 scr) (hroom : 1 ≤ R.frames ∧ 100 ≤ R.locals) (hrep : am_rep b0 b cI cB dC dI s nL H locs ls L h) (hcells : cells + n0 = h.length) (hslots : slots + z0 = am_szs h) {i : Fin 4} {nx tg a b' w : Nat} {v : Int32} {lv : Int64} {sw : List (Int32 × Nat)} (hE : E = (.iload_n i, nx, tg, a, b', w, v, lv, sw)) (hok : am_ok1 mt own mnm cc nL ret pc E = true)
    (hk : am_K (am_step scr E L st h) (am_cont p l e R s m args below meth c Q b0 b cI cB dC dI nL n0 z0) Kr Kc) : W p l e R s m args below meth c H locs cells slots Q (F0 m pc ls (st.map (am_cv b0 b))) := by
  subst hE
  obtain ⟨hd0, hok⟩ := am_and hok
  have hd0 := of_decide_eq_true hd0
  obtain ⟨hx, hb, hml, hown, hts, hK, hmn, hb0, hsc⟩ := hc
  obtain ⟨hP, hS, hL⟩ := hrep
  obtain ⟨hl, hv⟩ := am_and hok
  obtain ⟨e9, hd⟩ := am_dec hd0 hl
  subst e9
  obtain ⟨x, h1, hk⟩ := am_lo_inv hk
  obtain ⟨x, rfl, hk⟩ := am_vi_inv hk
  have hk : am_cont p l e R s m args below meth c Q b0 b cI cB dC dI nL n0 z0 (_, L, .int x :: st, h) := hk
  exact lv_iload_n hx hb hd (am_beq hv) (hL.2.2.2 _ _ h1) (hk.2 H locs ls cells slots ⟨hP, hS, hL⟩ hcells hslots)
set_option maxHeartbeats 1000000 in
theorem am_s_lload {E : am_I} (hc : am_ctx p s m args meth c b0 b cI cB dC dI cc own mnm nL n0 scr) (hroom : 1 ≤ R.frames ∧ 100 ≤ R.locals) (hrep : am_rep b0 b cI cB dC dI s nL H locs ls L h) (hcells : cells + n0 = h.length) (hslots : slots + z0 = am_szs h) {i : Nat} {nx tg a b' w : Nat} {v : Int32} {lv : Int64} {sw : List (Int32 × Nat)} (hE : E = (.lload i, nx, tg, a, b', w, v, lv, sw)) (hok : am_ok1 mt own mnm cc nL ret pc E = true)
    (hk : am_K (am_step scr E L st h) (am_cont p l e R s m args below meth c Q b0 b cI cB dC dI nL n0 z0) Kr Kc) : W p l e R s m args below meth c H locs cells slots Q (F0 m pc ls (st.map (am_cv b0 b))) := by
  subst hE
  obtain ⟨hd0, hok⟩ := am_and hok
  have hd0 := of_decide_eq_true hd0
  obtain ⟨hx, hb, hml, hown, hts, hK, hmn, hb0, hsc⟩ := hc
  obtain ⟨hP, hS, hL⟩ := hrep
  obtain ⟨hl, hv⟩ := am_and hok
  obtain ⟨e9, hd⟩ := am_dec hd0 hl
  subst e9
  cases am_beq hv
  obtain ⟨x, h1, hk⟩ := am_lo_inv hk
  obtain ⟨x, rfl, hk⟩ := am_vj_inv hk
  have hk : am_cont p l e R s m args below meth c Q b0 b cI cB dC dI nL n0 z0 (_, L, .long x :: st, h) := hk
  exact lv_lload hx hb hd (hL.2.2.2 _ _ h1) (hk.2 H locs ls cells slots ⟨hP, hS, hL⟩ hcells hslots)
set_option maxHeartbeats 1000000 in
theorem am_s_lload_n {E : am_I} (hc : am_ctx p s m args meth c b0 b cI cB dC dI cc own mnm nL n0 scr) (hroom : 1 ≤ R.frames ∧ 100 ≤ R.locals) (hrep : am_rep b0 b cI cB dC dI s nL H locs ls L h) (hcells : cells + n0 = h.length) (hslots : slots + z0 = am_szs h) {i : Fin 4} {nx tg a b' w : Nat} {v : Int32} {lv : Int64} {sw : List (Int32 × Nat)} (hE : E = (.lload_n i, nx, tg, a, b', w, v, lv, sw)) (hok : am_ok1 mt own mnm cc nL ret pc E = true)
    (hk : am_K (am_step scr E L st h) (am_cont p l e R s m args below meth c Q b0 b cI cB dC dI nL n0 z0) Kr Kc) : W p l e R s m args below meth c H locs cells slots Q (F0 m pc ls (st.map (am_cv b0 b))) := by
  subst hE
  obtain ⟨hd0, hok⟩ := am_and hok
  have hd0 := of_decide_eq_true hd0
  obtain ⟨hx, hb, hml, hown, hts, hK, hmn, hb0, hsc⟩ := hc
  obtain ⟨hP, hS, hL⟩ := hrep
  obtain ⟨hl, hv⟩ := am_and hok
  obtain ⟨e9, hd⟩ := am_dec hd0 hl
  subst e9
  obtain ⟨x, h1, hk⟩ := am_lo_inv hk
  obtain ⟨x, rfl, hk⟩ := am_vj_inv hk
  have hk : am_cont p l e R s m args below meth c Q b0 b cI cB dC dI nL n0 z0 (_, L, .long x :: st, h) := hk
  exact lv_lload_n hx hb hd (am_beq hv) (hL.2.2.2 _ _ h1) (hk.2 H locs ls cells slots ⟨hP, hS, hL⟩ hcells hslots)
set_option maxHeartbeats 1000000 in
theorem am_s_aload {E : am_I} (hc : am_ctx p s m args meth c b0 b cI cB dC dI cc own mnm nL n0 scr) (hroom : 1 ≤ R.frames ∧ 100 ≤ R.locals) (hrep : am_rep b0 b cI cB dC dI s nL H locs ls L h) (hcells : cells + n0 = h.length) (hslots : slots + z0 = am_szs h) {i : Nat} {nx tg a b' w : Nat} {v : Int32} {lv : Int64} {sw : List (Int32 × Nat)} (hE : E = (.aload i, nx, tg, a, b', w, v, lv, sw)) (hok : am_ok1 mt own mnm cc nL ret pc E = true)
    (hk : am_K (am_step scr E L st h) (am_cont p l e R s m args below meth c Q b0 b cI cB dC dI nL n0 z0) Kr Kc) : W p l e R s m args below meth c H locs cells slots Q (F0 m pc ls (st.map (am_cv b0 b))) := by
  subst hE
  obtain ⟨hd0, hok⟩ := am_and hok
  have hd0 := of_decide_eq_true hd0
  obtain ⟨hx, hb, hml, hown, hts, hK, hmn, hb0, hsc⟩ := hc
  obtain ⟨hP, hS, hL⟩ := hrep
  obtain ⟨hl, hv⟩ := am_and hok
  obtain ⟨e9, hd⟩ := am_dec hd0 hl
  subst e9
  cases am_beq hv
  obtain ⟨x, h1, hk⟩ := am_lo_inv hk
  obtain ⟨hr, hk⟩ := am_va_inv hk
  rcases hr with ⟨q, rfl⟩ | ⟨q, rfl⟩
  · have hk : am_cont p l e R s m args below meth c Q b0 b cI cB dC dI nL n0 z0 (_, L, .ref q :: st, h) := hk
    exact lv_aload hx hb hd (hL.2.2.2 _ _ h1) (hk.2 H locs ls cells slots ⟨hP, hS, hL⟩ hcells hslots)
  · have hk : am_cont p l e R s m args below meth c Q b0 b cI cB dC dI nL n0 z0 (_, L, .retAddr q :: st, h) := hk
    exact lv_aload hx hb hd (hL.2.2.2 _ _ h1) (hk.2 H locs ls cells slots ⟨hP, hS, hL⟩ hcells hslots)
set_option maxHeartbeats 1000000 in
theorem am_s_aload_n {E : am_I} (hc : am_ctx p s m args meth c b0 b cI cB dC dI cc own mnm nL n0 scr) (hroom : 1 ≤ R.frames ∧ 100 ≤ R.locals) (hrep : am_rep b0 b cI cB dC dI s nL H locs ls L h) (hcells : cells + n0 = h.length) (hslots : slots + z0 = am_szs h) {i : Fin 4} {nx tg a b' w : Nat} {v : Int32} {lv : Int64} {sw : List (Int32 × Nat)} (hE : E = (.aload_n i, nx, tg, a, b', w, v, lv, sw)) (hok : am_ok1 mt own mnm cc nL ret pc E = true)
    (hk : am_K (am_step scr E L st h) (am_cont p l e R s m args below meth c Q b0 b cI cB dC dI nL n0 z0) Kr Kc) : W p l e R s m args below meth c H locs cells slots Q (F0 m pc ls (st.map (am_cv b0 b))) := by
  subst hE
  obtain ⟨hd0, hok⟩ := am_and hok
  have hd0 := of_decide_eq_true hd0
  obtain ⟨hx, hb, hml, hown, hts, hK, hmn, hb0, hsc⟩ := hc
  obtain ⟨hP, hS, hL⟩ := hrep
  obtain ⟨hl, hv⟩ := am_and hok
  obtain ⟨e9, hd⟩ := am_dec hd0 hl
  subst e9
  skip
  obtain ⟨x, h1, hk⟩ := am_lo_inv hk
  obtain ⟨hr, hk⟩ := am_va_inv hk
  rcases hr with ⟨q, rfl⟩ | ⟨q, rfl⟩
  · have hk : am_cont p l e R s m args below meth c Q b0 b cI cB dC dI nL n0 z0 (_, L, .ref q :: st, h) := hk
    exact lv_aload_n hx hb hd (am_beq hv) (hL.2.2.2 _ _ h1) (hk.2 H locs ls cells slots ⟨hP, hS, hL⟩ hcells hslots)
  · have hk : am_cont p l e R s m args below meth c Q b0 b cI cB dC dI nL n0 z0 (_, L, .retAddr q :: st, h) := hk
    exact lv_aload_n hx hb hd (am_beq hv) (hL.2.2.2 _ _ h1) (hk.2 H locs ls cells slots ⟨hP, hS, hL⟩ hcells hslots)
set_option maxHeartbeats 1000000 in
theorem am_s_istore {E : am_I} (hc : am_ctx p s m args meth c b0 b cI cB dC dI cc own mnm nL n0 scr) (hroom : 1 ≤ R.frames ∧ 100 ≤ R.locals) (hrep : am_rep b0 b cI cB dC dI s nL H locs ls L h) (hcells : cells + n0 = h.length) (hslots : slots + z0 = am_szs h) {i : Nat} {nx tg a b' w : Nat} {v : Int32} {lv : Int64} {sw : List (Int32 × Nat)} (hE : E = (.istore i, nx, tg, a, b', w, v, lv, sw)) (hok : am_ok1 mt own mnm cc nL ret pc E = true)
    (hk : am_K (am_step scr E L st h) (am_cont p l e R s m args below meth c Q b0 b cI cB dC dI nL n0 z0) Kr Kc) : W p l e R s m args below meth c H locs cells slots Q (F0 m pc ls (st.map (am_cv b0 b))) := by
  subst hE
  obtain ⟨hd0, hok⟩ := am_and hok
  have hd0 := of_decide_eq_true hd0
  obtain ⟨hx, hb, hml, hown, hts, hK, hmn, hb0, hsc⟩ := hc
  obtain ⟨hP, hS, hL⟩ := hrep
  obtain ⟨hl, hv⟩ := am_and hok
  obtain ⟨e9, hd⟩ := am_dec hd0 hl
  subst e9
  cases am_beq hv
  obtain ⟨x, r, rfl, hk⟩ := am_i1_inv hk
  obtain ⟨L', hp, hk⟩ := am_put_inv hk
  have hk : am_cont p l e R s m args below meth c Q b0 b cI cB dC dI nL n0 z0 (_, L', r, h) := hk
  exact lv_istore hx hb hd (am_lh_has hL) (by rw [← hL.2.2.1]; exact am_st1_lt hp) rfl (fun ls' hls => hk.2 H locs ls' cells slots ⟨hP, hS, am_lh_st1 hL hp hls⟩ hcells hslots)
set_option maxHeartbeats 1000000 in
theorem am_s_istore_n {E : am_I} (hc : am_ctx p s m args meth c b0 b cI cB dC dI cc own mnm nL n0 scr) (hroom : 1 ≤ R.frames ∧ 100 ≤ R.locals) (hrep : am_rep b0 b cI cB dC dI s nL H locs ls L h) (hcells : cells + n0 = h.length) (hslots : slots + z0 = am_szs h) {i : Fin 4} {nx tg a b' w : Nat} {v : Int32} {lv : Int64} {sw : List (Int32 × Nat)} (hE : E = (.istore_n i, nx, tg, a, b', w, v, lv, sw)) (hok : am_ok1 mt own mnm cc nL ret pc E = true)
    (hk : am_K (am_step scr E L st h) (am_cont p l e R s m args below meth c Q b0 b cI cB dC dI nL n0 z0) Kr Kc) : W p l e R s m args below meth c H locs cells slots Q (F0 m pc ls (st.map (am_cv b0 b))) := by
  subst hE
  obtain ⟨hd0, hok⟩ := am_and hok
  have hd0 := of_decide_eq_true hd0
  obtain ⟨hx, hb, hml, hown, hts, hK, hmn, hb0, hsc⟩ := hc
  obtain ⟨hP, hS, hL⟩ := hrep
  obtain ⟨hl, hv⟩ := am_and hok
  obtain ⟨e9, hd⟩ := am_dec hd0 hl
  subst e9
  obtain ⟨x, r, rfl, hk⟩ := am_i1_inv hk
  obtain ⟨L', hp, hk⟩ := am_put_inv hk
  have hk : am_cont p l e R s m args below meth c Q b0 b cI cB dC dI nL n0 z0 (_, L', r, h) := hk
  exact lv_istore_n hx hb hd (am_beq hv) (am_lh_has hL) (by rw [← hL.2.2.1]; exact am_st1_lt hp) rfl (fun ls' hls => hk.2 H locs ls' cells slots ⟨hP, hS, am_lh_st1 hL hp hls⟩ hcells hslots)
set_option maxHeartbeats 1000000 in
theorem am_s_astore {E : am_I} (hc : am_ctx p s m args meth c b0 b cI cB dC dI cc own mnm nL n0 scr) (hroom : 1 ≤ R.frames ∧ 100 ≤ R.locals) (hrep : am_rep b0 b cI cB dC dI s nL H locs ls L h) (hcells : cells + n0 = h.length) (hslots : slots + z0 = am_szs h) {i : Nat} {nx tg a b' w : Nat} {v : Int32} {lv : Int64} {sw : List (Int32 × Nat)} (hE : E = (.astore i, nx, tg, a, b', w, v, lv, sw)) (hok : am_ok1 mt own mnm cc nL ret pc E = true)
    (hk : am_K (am_step scr E L st h) (am_cont p l e R s m args below meth c Q b0 b cI cB dC dI nL n0 z0) Kr Kc) : W p l e R s m args below meth c H locs cells slots Q (F0 m pc ls (st.map (am_cv b0 b))) := by
  subst hE
  obtain ⟨hd0, hok⟩ := am_and hok
  have hd0 := of_decide_eq_true hd0
  obtain ⟨hx, hb, hml, hown, hts, hK, hmn, hb0, hsc⟩ := hc
  obtain ⟨hP, hS, hL⟩ := hrep
  obtain ⟨hl, hv⟩ := am_and hok
  obtain ⟨e9, hd⟩ := am_dec hd0 hl
  subst e9
  cases am_beq hv
  obtain ⟨x, r, rfl, hk⟩ := am_r1_inv hk
  obtain ⟨L', hp, hk⟩ := am_put_inv hk
  have hk : am_cont p l e R s m args below meth c Q b0 b cI cB dC dI nL n0 z0 (_, L', r, h) := hk
  exact lv_astore hx hb hd (am_lh_has hL) (by rw [← hL.2.2.1]; exact am_st1_lt hp) rfl (fun ls' hls => hk.2 H locs ls' cells slots ⟨hP, hS, am_lh_st1 hL hp hls⟩ hcells hslots)
set_option maxHeartbeats 1000000 in
theorem am_s_astore_n {E : am_I} (hc : am_ctx p s m args meth c b0 b cI cB dC dI cc own mnm nL n0 scr) (hroom : 1 ≤ R.frames ∧ 100 ≤ R.locals) (hrep : am_rep b0 b cI cB dC dI s nL H locs ls L h) (hcells : cells + n0 = h.length) (hslots : slots + z0 = am_szs h) {i : Fin 4} {nx tg a b' w : Nat} {v : Int32} {lv : Int64} {sw : List (Int32 × Nat)} (hE : E = (.astore_n i, nx, tg, a, b', w, v, lv, sw)) (hok : am_ok1 mt own mnm cc nL ret pc E = true)
    (hk : am_K (am_step scr E L st h) (am_cont p l e R s m args below meth c Q b0 b cI cB dC dI nL n0 z0) Kr Kc) : W p l e R s m args below meth c H locs cells slots Q (F0 m pc ls (st.map (am_cv b0 b))) := by
  subst hE
  obtain ⟨hd0, hok⟩ := am_and hok
  have hd0 := of_decide_eq_true hd0
  obtain ⟨hx, hb, hml, hown, hts, hK, hmn, hb0, hsc⟩ := hc
  obtain ⟨hP, hS, hL⟩ := hrep
  obtain ⟨hl, hv⟩ := am_and hok
  obtain ⟨e9, hd⟩ := am_dec hd0 hl
  subst e9
  obtain ⟨x, r, rfl, hk⟩ := am_r1_inv hk
  obtain ⟨L', hp, hk⟩ := am_put_inv hk
  have hk : am_cont p l e R s m args below meth c Q b0 b cI cB dC dI nL n0 z0 (_, L', r, h) := hk
  exact lv_astore_n hx hb hd (am_beq hv) (am_lh_has hL) (by rw [← hL.2.2.1]; exact am_st1_lt hp) rfl (fun ls' hls => hk.2 H locs ls' cells slots ⟨hP, hS, am_lh_st1 hL hp hls⟩ hcells hslots)
set_option maxHeartbeats 1000000 in
theorem am_s_lstore {E : am_I} (hc : am_ctx p s m args meth c b0 b cI cB dC dI cc own mnm nL n0 scr) (hroom : 1 ≤ R.frames ∧ 100 ≤ R.locals) (hrep : am_rep b0 b cI cB dC dI s nL H locs ls L h) (hcells : cells + n0 = h.length) (hslots : slots + z0 = am_szs h) {i : Nat} {nx tg a b' w : Nat} {v : Int32} {lv : Int64} {sw : List (Int32 × Nat)} (hE : E = (.lstore i, nx, tg, a, b', w, v, lv, sw)) (hok : am_ok1 mt own mnm cc nL ret pc E = true)
    (hk : am_K (am_step scr E L st h) (am_cont p l e R s m args below meth c Q b0 b cI cB dC dI nL n0 z0) Kr Kc) : W p l e R s m args below meth c H locs cells slots Q (F0 m pc ls (st.map (am_cv b0 b))) := by
  subst hE
  obtain ⟨hd0, hok⟩ := am_and hok
  have hd0 := of_decide_eq_true hd0
  obtain ⟨hx, hb, hml, hown, hts, hK, hmn, hb0, hsc⟩ := hc
  obtain ⟨hP, hS, hL⟩ := hrep
  obtain ⟨hl, hv⟩ := am_and hok
  obtain ⟨e9, hd⟩ := am_dec hd0 hl
  subst e9
  cases am_beq hv
  obtain ⟨x, r, rfl, hk⟩ := am_j1_inv hk
  obtain ⟨L', hp, hk⟩ := am_put_inv hk
  have hk : am_cont p l e R s m args below meth c Q b0 b cI cB dC dI nL n0 z0 (_, L', r, h) := hk
  exact lv_lstore hx hb hd (am_lh_has hL) (by rw [← hL.2.2.1]; exact am_st2_lt hp) rfl (fun ls' hls => hk.2 H locs ls' cells slots ⟨hP, hS, am_lh_st2 hL hp hls⟩ hcells hslots)
set_option maxHeartbeats 1000000 in
theorem am_s_lstore_n {E : am_I} (hc : am_ctx p s m args meth c b0 b cI cB dC dI cc own mnm nL n0 scr) (hroom : 1 ≤ R.frames ∧ 100 ≤ R.locals) (hrep : am_rep b0 b cI cB dC dI s nL H locs ls L h) (hcells : cells + n0 = h.length) (hslots : slots + z0 = am_szs h) {i : Fin 4} {nx tg a b' w : Nat} {v : Int32} {lv : Int64} {sw : List (Int32 × Nat)} (hE : E = (.lstore_n i, nx, tg, a, b', w, v, lv, sw)) (hok : am_ok1 mt own mnm cc nL ret pc E = true)
    (hk : am_K (am_step scr E L st h) (am_cont p l e R s m args below meth c Q b0 b cI cB dC dI nL n0 z0) Kr Kc) : W p l e R s m args below meth c H locs cells slots Q (F0 m pc ls (st.map (am_cv b0 b))) := by
  subst hE
  obtain ⟨hd0, hok⟩ := am_and hok
  have hd0 := of_decide_eq_true hd0
  obtain ⟨hx, hb, hml, hown, hts, hK, hmn, hb0, hsc⟩ := hc
  obtain ⟨hP, hS, hL⟩ := hrep
  obtain ⟨hl, hv⟩ := am_and hok
  obtain ⟨e9, hd⟩ := am_dec hd0 hl
  subst e9
  obtain ⟨x, r, rfl, hk⟩ := am_j1_inv hk
  obtain ⟨L', hp, hk⟩ := am_put_inv hk
  have hk : am_cont p l e R s m args below meth c Q b0 b cI cB dC dI nL n0 z0 (_, L', r, h) := hk
  exact lv_lstore_n hx hb hd (am_beq hv) (am_lh_has hL) (by rw [← hL.2.2.1]; exact am_st2_lt hp) rfl (fun ls' hls => hk.2 H locs ls' cells slots ⟨hP, hS, am_lh_st2 hL hp hls⟩ hcells hslots)
set_option maxHeartbeats 1000000 in
theorem am_s_iinc {E : am_I} (hc : am_ctx p s m args meth c b0 b cI cB dC dI cc own mnm nL n0 scr) (hroom : 1 ≤ R.frames ∧ 100 ≤ R.locals) (hrep : am_rep b0 b cI cB dC dI s nL H locs ls L h) (hcells : cells + n0 = h.length) (hslots : slots + z0 = am_szs h) {i : Nat} {n : Int} {nx tg a b' w : Nat} {v : Int32} {lv : Int64} {sw : List (Int32 × Nat)} (hE : E = (.iinc i n, nx, tg, a, b', w, v, lv, sw)) (hok : am_ok1 mt own mnm cc nL ret pc E = true)
    (hk : am_K (am_step scr E L st h) (am_cont p l e R s m args below meth c Q b0 b cI cB dC dI nL n0 z0) Kr Kc) : W p l e R s m args below meth c H locs cells slots Q (F0 m pc ls (st.map (am_cv b0 b))) := by
  subst hE
  obtain ⟨hd0, hok⟩ := am_and hok
  have hd0 := of_decide_eq_true hd0
  obtain ⟨hx, hb, hml, hown, hts, hK, hmn, hb0, hsc⟩ := hc
  obtain ⟨hP, hS, hL⟩ := hrep
  obtain ⟨hl, hv⟩ := am_and hok
  obtain ⟨hl, hi⟩ := am_and hl
  obtain ⟨e9, hd⟩ := am_dec hd0 hl
  subst e9
  cases am_beq hi
  have hv := of_decide_eq_true hv
  obtain ⟨x, h1, hk⟩ := am_lo_inv hk
  obtain ⟨x, rfl, hk⟩ := am_vi_inv hk
  obtain ⟨L', hp, hk⟩ := am_put_inv hk
  have hk : am_cont p l e R s m args below meth c Q b0 b cI cB dC dI nL n0 z0 (_, L', st, h) := hk
  have hin := am_ll_of (b0 := b0) (b := b) L 0 _ _ h1
  rw [Nat.zero_add] at hin
  obtain ⟨k, hk1⟩ := List.getElem?_of_mem hin
  exact lv_iinc (v := x + v) hx hb hd (am_lh_has hL) hk1 (by rw [hv]) (by rw [← hL.2.2.1]; exact am_st1_lt hp) rfl (fun ls' hls => hk.2 H locs ls' cells slots ⟨hP, hS, am_lh_st1 hL hp hls⟩ hcells hslots)
set_option maxHeartbeats 1000000 in
theorem am_s_iadd {E : am_I} (hc : am_ctx p s m args meth c b0 b cI cB dC dI cc own mnm nL n0 scr) (hroom : 1 ≤ R.frames ∧ 100 ≤ R.locals) (hrep : am_rep b0 b cI cB dC dI s nL H locs ls L h) (hcells : cells + n0 = h.length) (hslots : slots + z0 = am_szs h)  {nx tg a b' w : Nat} {v : Int32} {lv : Int64} {sw : List (Int32 × Nat)} (hE : E = (.iadd, nx, tg, a, b', w, v, lv, sw)) (hok : am_ok1 mt own mnm cc nL ret pc E = true)
    (hk : am_K (am_step scr E L st h) (am_cont p l e R s m args below meth c Q b0 b cI cB dC dI nL n0 z0) Kr Kc) : W p l e R s m args below meth c H locs cells slots Q (F0 m pc ls (st.map (am_cv b0 b))) := by
  subst hE
  obtain ⟨hd0, hok⟩ := am_and hok
  have hd0 := of_decide_eq_true hd0
  obtain ⟨hx, hb, hml, hown, hts, hK, hmn, hb0, hsc⟩ := hc
  obtain ⟨hP, hS, hL⟩ := hrep
  obtain ⟨e9, hd⟩ := am_dec hd0 hok
  subst e9
  obtain ⟨x, y, r, rfl, hk⟩ := am_i2_inv hk
  have hk : am_cont p l e R s m args below meth c Q b0 b cI cB dC dI nL n0 z0 (_, L, .int (x + y) :: r, h) := hk
  exact lv_iadd hx hb hd (hk.2 H locs ls cells slots ⟨hP, hS, hL⟩ hcells hslots)
set_option maxHeartbeats 1000000 in
theorem am_s_isub {E : am_I} (hc : am_ctx p s m args meth c b0 b cI cB dC dI cc own mnm nL n0 scr) (hroom : 1 ≤ R.frames ∧ 100 ≤ R.locals) (hrep : am_rep b0 b cI cB dC dI s nL H locs ls L h) (hcells : cells + n0 = h.length) (hslots : slots + z0 = am_szs h)  {nx tg a b' w : Nat} {v : Int32} {lv : Int64} {sw : List (Int32 × Nat)} (hE : E = (.isub, nx, tg, a, b', w, v, lv, sw)) (hok : am_ok1 mt own mnm cc nL ret pc E = true)
    (hk : am_K (am_step scr E L st h) (am_cont p l e R s m args below meth c Q b0 b cI cB dC dI nL n0 z0) Kr Kc) : W p l e R s m args below meth c H locs cells slots Q (F0 m pc ls (st.map (am_cv b0 b))) := by
  subst hE
  obtain ⟨hd0, hok⟩ := am_and hok
  have hd0 := of_decide_eq_true hd0
  obtain ⟨hx, hb, hml, hown, hts, hK, hmn, hb0, hsc⟩ := hc
  obtain ⟨hP, hS, hL⟩ := hrep
  obtain ⟨e9, hd⟩ := am_dec hd0 hok
  subst e9
  obtain ⟨x, y, r, rfl, hk⟩ := am_i2_inv hk
  have hk : am_cont p l e R s m args below meth c Q b0 b cI cB dC dI nL n0 z0 (_, L, .int (x - y) :: r, h) := hk
  exact lv_isub hx hb hd (hk.2 H locs ls cells slots ⟨hP, hS, hL⟩ hcells hslots)
set_option maxHeartbeats 1000000 in
theorem am_s_imul {E : am_I} (hc : am_ctx p s m args meth c b0 b cI cB dC dI cc own mnm nL n0 scr) (hroom : 1 ≤ R.frames ∧ 100 ≤ R.locals) (hrep : am_rep b0 b cI cB dC dI s nL H locs ls L h) (hcells : cells + n0 = h.length) (hslots : slots + z0 = am_szs h)  {nx tg a b' w : Nat} {v : Int32} {lv : Int64} {sw : List (Int32 × Nat)} (hE : E = (.imul, nx, tg, a, b', w, v, lv, sw)) (hok : am_ok1 mt own mnm cc nL ret pc E = true)
    (hk : am_K (am_step scr E L st h) (am_cont p l e R s m args below meth c Q b0 b cI cB dC dI nL n0 z0) Kr Kc) : W p l e R s m args below meth c H locs cells slots Q (F0 m pc ls (st.map (am_cv b0 b))) := by
  subst hE
  obtain ⟨hd0, hok⟩ := am_and hok
  have hd0 := of_decide_eq_true hd0
  obtain ⟨hx, hb, hml, hown, hts, hK, hmn, hb0, hsc⟩ := hc
  obtain ⟨hP, hS, hL⟩ := hrep
  obtain ⟨e9, hd⟩ := am_dec hd0 hok
  subst e9
  obtain ⟨x, y, r, rfl, hk⟩ := am_i2_inv hk
  have hk : am_cont p l e R s m args below meth c Q b0 b cI cB dC dI nL n0 z0 (_, L, .int (x * y) :: r, h) := hk
  exact lv_imul hx hb hd (hk.2 H locs ls cells slots ⟨hP, hS, hL⟩ hcells hslots)
set_option maxHeartbeats 1000000 in
theorem am_s_iand {E : am_I} (hc : am_ctx p s m args meth c b0 b cI cB dC dI cc own mnm nL n0 scr) (hroom : 1 ≤ R.frames ∧ 100 ≤ R.locals) (hrep : am_rep b0 b cI cB dC dI s nL H locs ls L h) (hcells : cells + n0 = h.length) (hslots : slots + z0 = am_szs h)  {nx tg a b' w : Nat} {v : Int32} {lv : Int64} {sw : List (Int32 × Nat)} (hE : E = (.iand, nx, tg, a, b', w, v, lv, sw)) (hok : am_ok1 mt own mnm cc nL ret pc E = true)
    (hk : am_K (am_step scr E L st h) (am_cont p l e R s m args below meth c Q b0 b cI cB dC dI nL n0 z0) Kr Kc) : W p l e R s m args below meth c H locs cells slots Q (F0 m pc ls (st.map (am_cv b0 b))) := by
  subst hE
  obtain ⟨hd0, hok⟩ := am_and hok
  have hd0 := of_decide_eq_true hd0
  obtain ⟨hx, hb, hml, hown, hts, hK, hmn, hb0, hsc⟩ := hc
  obtain ⟨hP, hS, hL⟩ := hrep
  obtain ⟨e9, hd⟩ := am_dec hd0 hok
  subst e9
  obtain ⟨x, y, r, rfl, hk⟩ := am_i2_inv hk
  have hk : am_cont p l e R s m args below meth c Q b0 b cI cB dC dI nL n0 z0 (_, L, .int (x &&& y) :: r, h) := hk
  exact lv_iand hx hb hd (hk.2 H locs ls cells slots ⟨hP, hS, hL⟩ hcells hslots)
set_option maxHeartbeats 1000000 in
theorem am_s_ior {E : am_I} (hc : am_ctx p s m args meth c b0 b cI cB dC dI cc own mnm nL n0 scr) (hroom : 1 ≤ R.frames ∧ 100 ≤ R.locals) (hrep : am_rep b0 b cI cB dC dI s nL H locs ls L h) (hcells : cells + n0 = h.length) (hslots : slots + z0 = am_szs h)  {nx tg a b' w : Nat} {v : Int32} {lv : Int64} {sw : List (Int32 × Nat)} (hE : E = (.ior, nx, tg, a, b', w, v, lv, sw)) (hok : am_ok1 mt own mnm cc nL ret pc E = true)
    (hk : am_K (am_step scr E L st h) (am_cont p l e R s m args below meth c Q b0 b cI cB dC dI nL n0 z0) Kr Kc) : W p l e R s m args below meth c H locs cells slots Q (F0 m pc ls (st.map (am_cv b0 b))) := by
  subst hE
  obtain ⟨hd0, hok⟩ := am_and hok
  have hd0 := of_decide_eq_true hd0
  obtain ⟨hx, hb, hml, hown, hts, hK, hmn, hb0, hsc⟩ := hc
  obtain ⟨hP, hS, hL⟩ := hrep
  obtain ⟨e9, hd⟩ := am_dec hd0 hok
  subst e9
  obtain ⟨x, y, r, rfl, hk⟩ := am_i2_inv hk
  have hk : am_cont p l e R s m args below meth c Q b0 b cI cB dC dI nL n0 z0 (_, L, .int (x ||| y) :: r, h) := hk
  exact lv_ior hx hb hd (hk.2 H locs ls cells slots ⟨hP, hS, hL⟩ hcells hslots)
set_option maxHeartbeats 1000000 in
theorem am_s_ixor {E : am_I} (hc : am_ctx p s m args meth c b0 b cI cB dC dI cc own mnm nL n0 scr) (hroom : 1 ≤ R.frames ∧ 100 ≤ R.locals) (hrep : am_rep b0 b cI cB dC dI s nL H locs ls L h) (hcells : cells + n0 = h.length) (hslots : slots + z0 = am_szs h)  {nx tg a b' w : Nat} {v : Int32} {lv : Int64} {sw : List (Int32 × Nat)} (hE : E = (.ixor, nx, tg, a, b', w, v, lv, sw)) (hok : am_ok1 mt own mnm cc nL ret pc E = true)
    (hk : am_K (am_step scr E L st h) (am_cont p l e R s m args below meth c Q b0 b cI cB dC dI nL n0 z0) Kr Kc) : W p l e R s m args below meth c H locs cells slots Q (F0 m pc ls (st.map (am_cv b0 b))) := by
  subst hE
  obtain ⟨hd0, hok⟩ := am_and hok
  have hd0 := of_decide_eq_true hd0
  obtain ⟨hx, hb, hml, hown, hts, hK, hmn, hb0, hsc⟩ := hc
  obtain ⟨hP, hS, hL⟩ := hrep
  obtain ⟨e9, hd⟩ := am_dec hd0 hok
  subst e9
  obtain ⟨x, y, r, rfl, hk⟩ := am_i2_inv hk
  have hk : am_cont p l e R s m args below meth c Q b0 b cI cB dC dI nL n0 z0 (_, L, .int (x ^^^ y) :: r, h) := hk
  exact lv_ixor hx hb hd (hk.2 H locs ls cells slots ⟨hP, hS, hL⟩ hcells hslots)
set_option maxHeartbeats 1000000 in
theorem am_s_ishl {E : am_I} (hc : am_ctx p s m args meth c b0 b cI cB dC dI cc own mnm nL n0 scr) (hroom : 1 ≤ R.frames ∧ 100 ≤ R.locals) (hrep : am_rep b0 b cI cB dC dI s nL H locs ls L h) (hcells : cells + n0 = h.length) (hslots : slots + z0 = am_szs h)  {nx tg a b' w : Nat} {v : Int32} {lv : Int64} {sw : List (Int32 × Nat)} (hE : E = (.ishl, nx, tg, a, b', w, v, lv, sw)) (hok : am_ok1 mt own mnm cc nL ret pc E = true)
    (hk : am_K (am_step scr E L st h) (am_cont p l e R s m args below meth c Q b0 b cI cB dC dI nL n0 z0) Kr Kc) : W p l e R s m args below meth c H locs cells slots Q (F0 m pc ls (st.map (am_cv b0 b))) := by
  subst hE
  obtain ⟨hd0, hok⟩ := am_and hok
  have hd0 := of_decide_eq_true hd0
  obtain ⟨hx, hb, hml, hown, hts, hK, hmn, hb0, hsc⟩ := hc
  obtain ⟨hP, hS, hL⟩ := hrep
  obtain ⟨e9, hd⟩ := am_dec hd0 hok
  subst e9
  obtain ⟨x, y, r, rfl, hk⟩ := am_i2_inv hk
  have hk : am_cont p l e R s m args below meth c Q b0 b cI cB dC dI nL n0 z0 (_, L, .int (x <<< (y &&& 31)) :: r, h) := hk
  exact lv_ishl hx hb hd (hk.2 H locs ls cells slots ⟨hP, hS, hL⟩ hcells hslots)
set_option maxHeartbeats 1000000 in
theorem am_s_ishr {E : am_I} (hc : am_ctx p s m args meth c b0 b cI cB dC dI cc own mnm nL n0 scr) (hroom : 1 ≤ R.frames ∧ 100 ≤ R.locals) (hrep : am_rep b0 b cI cB dC dI s nL H locs ls L h) (hcells : cells + n0 = h.length) (hslots : slots + z0 = am_szs h)  {nx tg a b' w : Nat} {v : Int32} {lv : Int64} {sw : List (Int32 × Nat)} (hE : E = (.ishr, nx, tg, a, b', w, v, lv, sw)) (hok : am_ok1 mt own mnm cc nL ret pc E = true)
    (hk : am_K (am_step scr E L st h) (am_cont p l e R s m args below meth c Q b0 b cI cB dC dI nL n0 z0) Kr Kc) : W p l e R s m args below meth c H locs cells slots Q (F0 m pc ls (st.map (am_cv b0 b))) := by
  subst hE
  obtain ⟨hd0, hok⟩ := am_and hok
  have hd0 := of_decide_eq_true hd0
  obtain ⟨hx, hb, hml, hown, hts, hK, hmn, hb0, hsc⟩ := hc
  obtain ⟨hP, hS, hL⟩ := hrep
  obtain ⟨e9, hd⟩ := am_dec hd0 hok
  subst e9
  obtain ⟨x, y, r, rfl, hk⟩ := am_i2_inv hk
  have hk : am_cont p l e R s m args below meth c Q b0 b cI cB dC dI nL n0 z0 (_, L, .int (x >>> (y &&& 31)) :: r, h) := hk
  exact lv_ishr hx hb hd (hk.2 H locs ls cells slots ⟨hP, hS, hL⟩ hcells hslots)
set_option maxHeartbeats 1000000 in
theorem am_s_iushr {E : am_I} (hc : am_ctx p s m args meth c b0 b cI cB dC dI cc own mnm nL n0 scr) (hroom : 1 ≤ R.frames ∧ 100 ≤ R.locals) (hrep : am_rep b0 b cI cB dC dI s nL H locs ls L h) (hcells : cells + n0 = h.length) (hslots : slots + z0 = am_szs h)  {nx tg a b' w : Nat} {v : Int32} {lv : Int64} {sw : List (Int32 × Nat)} (hE : E = (.iushr, nx, tg, a, b', w, v, lv, sw)) (hok : am_ok1 mt own mnm cc nL ret pc E = true)
    (hk : am_K (am_step scr E L st h) (am_cont p l e R s m args below meth c Q b0 b cI cB dC dI nL n0 z0) Kr Kc) : W p l e R s m args below meth c H locs cells slots Q (F0 m pc ls (st.map (am_cv b0 b))) := by
  subst hE
  obtain ⟨hd0, hok⟩ := am_and hok
  have hd0 := of_decide_eq_true hd0
  obtain ⟨hx, hb, hml, hown, hts, hK, hmn, hb0, hsc⟩ := hc
  obtain ⟨hP, hS, hL⟩ := hrep
  obtain ⟨e9, hd⟩ := am_dec hd0 hok
  subst e9
  obtain ⟨x, y, r, rfl, hk⟩ := am_i2_inv hk
  have hk : am_cont p l e R s m args below meth c Q b0 b cI cB dC dI nL n0 z0 (_, L, .int (x.toUInt32 >>> (y.toUInt32 &&& Int32.toUInt32 31)).toInt32 :: r, h) := hk
  exact lv_iushr hx hb hd rfl (hk.2 H locs ls cells slots ⟨hP, hS, hL⟩ hcells hslots)
set_option maxHeartbeats 1000000 in
theorem am_s_idiv {E : am_I} (hc : am_ctx p s m args meth c b0 b cI cB dC dI cc own mnm nL n0 scr) (hroom : 1 ≤ R.frames ∧ 100 ≤ R.locals) (hrep : am_rep b0 b cI cB dC dI s nL H locs ls L h) (hcells : cells + n0 = h.length) (hslots : slots + z0 = am_szs h)  {nx tg a b' w : Nat} {v : Int32} {lv : Int64} {sw : List (Int32 × Nat)} (hE : E = (.idiv, nx, tg, a, b', w, v, lv, sw)) (hok : am_ok1 mt own mnm cc nL ret pc E = true)
    (hk : am_K (am_step scr E L st h) (am_cont p l e R s m args below meth c Q b0 b cI cB dC dI nL n0 z0) Kr Kc) : W p l e R s m args below meth c H locs cells slots Q (F0 m pc ls (st.map (am_cv b0 b))) := by
  subst hE
  obtain ⟨hd0, hok⟩ := am_and hok
  have hd0 := of_decide_eq_true hd0
  obtain ⟨hx, hb, hml, hown, hts, hK, hmn, hb0, hsc⟩ := hc
  obtain ⟨hP, hS, hL⟩ := hrep
  obtain ⟨e9, hd⟩ := am_dec hd0 hok
  subst e9
  obtain ⟨x, y, r, rfl, hk⟩ := am_i2_inv hk
  have hk : (¬ y = 0) ∧ am_cont p l e R s m args below meth c Q b0 b cI cB dC dI nL n0 z0 (_, L, .int (x / y) :: r, h) := hk
  exact lv_idiv hx hb hd hk.1 (hk.2.2 H locs ls cells slots ⟨hP, hS, hL⟩ hcells hslots)
set_option maxHeartbeats 1000000 in
theorem am_s_irem {E : am_I} (hc : am_ctx p s m args meth c b0 b cI cB dC dI cc own mnm nL n0 scr) (hroom : 1 ≤ R.frames ∧ 100 ≤ R.locals) (hrep : am_rep b0 b cI cB dC dI s nL H locs ls L h) (hcells : cells + n0 = h.length) (hslots : slots + z0 = am_szs h)  {nx tg a b' w : Nat} {v : Int32} {lv : Int64} {sw : List (Int32 × Nat)} (hE : E = (.irem, nx, tg, a, b', w, v, lv, sw)) (hok : am_ok1 mt own mnm cc nL ret pc E = true)
    (hk : am_K (am_step scr E L st h) (am_cont p l e R s m args below meth c Q b0 b cI cB dC dI nL n0 z0) Kr Kc) : W p l e R s m args below meth c H locs cells slots Q (F0 m pc ls (st.map (am_cv b0 b))) := by
  subst hE
  obtain ⟨hd0, hok⟩ := am_and hok
  have hd0 := of_decide_eq_true hd0
  obtain ⟨hx, hb, hml, hown, hts, hK, hmn, hb0, hsc⟩ := hc
  obtain ⟨hP, hS, hL⟩ := hrep
  obtain ⟨e9, hd⟩ := am_dec hd0 hok
  subst e9
  obtain ⟨x, y, r, rfl, hk⟩ := am_i2_inv hk
  have hk : (¬ y = 0) ∧ am_cont p l e R s m args below meth c Q b0 b cI cB dC dI nL n0 z0 (_, L, .int (x - x / y * y) :: r, h) := hk
  exact lv_irem hx hb hd hk.1 (hk.2.2 H locs ls cells slots ⟨hP, hS, hL⟩ hcells hslots)
set_option maxHeartbeats 1000000 in
theorem am_s_ladd {E : am_I} (hc : am_ctx p s m args meth c b0 b cI cB dC dI cc own mnm nL n0 scr) (hroom : 1 ≤ R.frames ∧ 100 ≤ R.locals) (hrep : am_rep b0 b cI cB dC dI s nL H locs ls L h) (hcells : cells + n0 = h.length) (hslots : slots + z0 = am_szs h)  {nx tg a b' w : Nat} {v : Int32} {lv : Int64} {sw : List (Int32 × Nat)} (hE : E = (.ladd, nx, tg, a, b', w, v, lv, sw)) (hok : am_ok1 mt own mnm cc nL ret pc E = true)
    (hk : am_K (am_step scr E L st h) (am_cont p l e R s m args below meth c Q b0 b cI cB dC dI nL n0 z0) Kr Kc) : W p l e R s m args below meth c H locs cells slots Q (F0 m pc ls (st.map (am_cv b0 b))) := by
  subst hE
  obtain ⟨hd0, hok⟩ := am_and hok
  have hd0 := of_decide_eq_true hd0
  obtain ⟨hx, hb, hml, hown, hts, hK, hmn, hb0, hsc⟩ := hc
  obtain ⟨hP, hS, hL⟩ := hrep
  obtain ⟨e9, hd⟩ := am_dec hd0 hok
  subst e9
  obtain ⟨x, y, r, rfl, hk⟩ := am_j2_inv hk
  have hk : am_cont p l e R s m args below meth c Q b0 b cI cB dC dI nL n0 z0 (_, L, .long (x + y) :: r, h) := hk
  exact lv_ladd hx hb hd (hk.2 H locs ls cells slots ⟨hP, hS, hL⟩ hcells hslots)
set_option maxHeartbeats 1000000 in
theorem am_s_lmul {E : am_I} (hc : am_ctx p s m args meth c b0 b cI cB dC dI cc own mnm nL n0 scr) (hroom : 1 ≤ R.frames ∧ 100 ≤ R.locals) (hrep : am_rep b0 b cI cB dC dI s nL H locs ls L h) (hcells : cells + n0 = h.length) (hslots : slots + z0 = am_szs h)  {nx tg a b' w : Nat} {v : Int32} {lv : Int64} {sw : List (Int32 × Nat)} (hE : E = (.lmul, nx, tg, a, b', w, v, lv, sw)) (hok : am_ok1 mt own mnm cc nL ret pc E = true)
    (hk : am_K (am_step scr E L st h) (am_cont p l e R s m args below meth c Q b0 b cI cB dC dI nL n0 z0) Kr Kc) : W p l e R s m args below meth c H locs cells slots Q (F0 m pc ls (st.map (am_cv b0 b))) := by
  subst hE
  obtain ⟨hd0, hok⟩ := am_and hok
  have hd0 := of_decide_eq_true hd0
  obtain ⟨hx, hb, hml, hown, hts, hK, hmn, hb0, hsc⟩ := hc
  obtain ⟨hP, hS, hL⟩ := hrep
  obtain ⟨e9, hd⟩ := am_dec hd0 hok
  subst e9
  obtain ⟨x, y, r, rfl, hk⟩ := am_j2_inv hk
  have hk : am_cont p l e R s m args below meth c Q b0 b cI cB dC dI nL n0 z0 (_, L, .long (x * y) :: r, h) := hk
  exact lv_lmul hx hb hd (hk.2 H locs ls cells slots ⟨hP, hS, hL⟩ hcells hslots)
set_option maxHeartbeats 1000000 in
theorem am_s_lrem {E : am_I} (hc : am_ctx p s m args meth c b0 b cI cB dC dI cc own mnm nL n0 scr) (hroom : 1 ≤ R.frames ∧ 100 ≤ R.locals) (hrep : am_rep b0 b cI cB dC dI s nL H locs ls L h) (hcells : cells + n0 = h.length) (hslots : slots + z0 = am_szs h)  {nx tg a b' w : Nat} {v : Int32} {lv : Int64} {sw : List (Int32 × Nat)} (hE : E = (.lrem, nx, tg, a, b', w, v, lv, sw)) (hok : am_ok1 mt own mnm cc nL ret pc E = true)
    (hk : am_K (am_step scr E L st h) (am_cont p l e R s m args below meth c Q b0 b cI cB dC dI nL n0 z0) Kr Kc) : W p l e R s m args below meth c H locs cells slots Q (F0 m pc ls (st.map (am_cv b0 b))) := by
  subst hE
  obtain ⟨hd0, hok⟩ := am_and hok
  have hd0 := of_decide_eq_true hd0
  obtain ⟨hx, hb, hml, hown, hts, hK, hmn, hb0, hsc⟩ := hc
  obtain ⟨hP, hS, hL⟩ := hrep
  obtain ⟨e9, hd⟩ := am_dec hd0 hok
  subst e9
  obtain ⟨x, y, r, rfl, hk⟩ := am_j2_inv hk
  have hk : (¬ y = 0) ∧ am_cont p l e R s m args below meth c Q b0 b cI cB dC dI nL n0 z0 (_, L, .long (x - x / y * y) :: r, h) := hk
  exact lv_lrem hx hb hd hk.1 (hk.2.2 H locs ls cells slots ⟨hP, hS, hL⟩ hcells hslots)
set_option maxHeartbeats 1000000 in
theorem am_s_lcmp {E : am_I} (hc : am_ctx p s m args meth c b0 b cI cB dC dI cc own mnm nL n0 scr) (hroom : 1 ≤ R.frames ∧ 100 ≤ R.locals) (hrep : am_rep b0 b cI cB dC dI s nL H locs ls L h) (hcells : cells + n0 = h.length) (hslots : slots + z0 = am_szs h)  {nx tg a b' w : Nat} {v : Int32} {lv : Int64} {sw : List (Int32 × Nat)} (hE : E = (.lcmp, nx, tg, a, b', w, v, lv, sw)) (hok : am_ok1 mt own mnm cc nL ret pc E = true)
    (hk : am_K (am_step scr E L st h) (am_cont p l e R s m args below meth c Q b0 b cI cB dC dI nL n0 z0) Kr Kc) : W p l e R s m args below meth c H locs cells slots Q (F0 m pc ls (st.map (am_cv b0 b))) := by
  subst hE
  obtain ⟨hd0, hok⟩ := am_and hok
  have hd0 := of_decide_eq_true hd0
  obtain ⟨hx, hb, hml, hown, hts, hK, hmn, hb0, hsc⟩ := hc
  obtain ⟨hP, hS, hL⟩ := hrep
  obtain ⟨e9, hd⟩ := am_dec hd0 hok
  subst e9
  obtain ⟨x, y, r, rfl, hk⟩ := am_j2_inv hk
  have hk : am_cont p l e R s m args below meth c Q b0 b cI cB dC dI nL n0 z0 (_, L, .int (lg_cmp x y) :: r, h) := hk
  exact W.lcmp hx hb hd (hk.2 H locs ls cells slots ⟨hP, hS, hL⟩ hcells hslots)
set_option maxHeartbeats 1000000 in
theorem am_s_ineg {E : am_I} (hc : am_ctx p s m args meth c b0 b cI cB dC dI cc own mnm nL n0 scr) (hroom : 1 ≤ R.frames ∧ 100 ≤ R.locals) (hrep : am_rep b0 b cI cB dC dI s nL H locs ls L h) (hcells : cells + n0 = h.length) (hslots : slots + z0 = am_szs h)  {nx tg a b' w : Nat} {v : Int32} {lv : Int64} {sw : List (Int32 × Nat)} (hE : E = (.ineg, nx, tg, a, b', w, v, lv, sw)) (hok : am_ok1 mt own mnm cc nL ret pc E = true)
    (hk : am_K (am_step scr E L st h) (am_cont p l e R s m args below meth c Q b0 b cI cB dC dI nL n0 z0) Kr Kc) : W p l e R s m args below meth c H locs cells slots Q (F0 m pc ls (st.map (am_cv b0 b))) := by
  subst hE
  obtain ⟨hd0, hok⟩ := am_and hok
  have hd0 := of_decide_eq_true hd0
  obtain ⟨hx, hb, hml, hown, hts, hK, hmn, hb0, hsc⟩ := hc
  obtain ⟨hP, hS, hL⟩ := hrep
  obtain ⟨e9, hd⟩ := am_dec hd0 hok
  subst e9
  obtain ⟨x, r, rfl, hk⟩ := am_i1_inv hk
  have hk : am_cont p l e R s m args below meth c Q b0 b cI cB dC dI nL n0 z0 (_, L, .int (-x) :: r, h) := hk
  exact lv_ineg hx hb hd (hk.2 H locs ls cells slots ⟨hP, hS, hL⟩ hcells hslots)
set_option maxHeartbeats 1000000 in
theorem am_s_i2l {E : am_I} (hc : am_ctx p s m args meth c b0 b cI cB dC dI cc own mnm nL n0 scr) (hroom : 1 ≤ R.frames ∧ 100 ≤ R.locals) (hrep : am_rep b0 b cI cB dC dI s nL H locs ls L h) (hcells : cells + n0 = h.length) (hslots : slots + z0 = am_szs h)  {nx tg a b' w : Nat} {v : Int32} {lv : Int64} {sw : List (Int32 × Nat)} (hE : E = (.i2l, nx, tg, a, b', w, v, lv, sw)) (hok : am_ok1 mt own mnm cc nL ret pc E = true)
    (hk : am_K (am_step scr E L st h) (am_cont p l e R s m args below meth c Q b0 b cI cB dC dI nL n0 z0) Kr Kc) : W p l e R s m args below meth c H locs cells slots Q (F0 m pc ls (st.map (am_cv b0 b))) := by
  subst hE
  obtain ⟨hd0, hok⟩ := am_and hok
  have hd0 := of_decide_eq_true hd0
  obtain ⟨hx, hb, hml, hown, hts, hK, hmn, hb0, hsc⟩ := hc
  obtain ⟨hP, hS, hL⟩ := hrep
  obtain ⟨e9, hd⟩ := am_dec hd0 hok
  subst e9
  obtain ⟨x, r, rfl, hk⟩ := am_i1_inv hk
  have hk : am_cont p l e R s m args below meth c Q b0 b cI cB dC dI nL n0 z0 (_, L, .long x.toInt64 :: r, h) := hk
  exact lv_i2l hx hb hd rfl (hk.2 H locs ls cells slots ⟨hP, hS, hL⟩ hcells hslots)
set_option maxHeartbeats 1000000 in
theorem am_s_l2i {E : am_I} (hc : am_ctx p s m args meth c b0 b cI cB dC dI cc own mnm nL n0 scr) (hroom : 1 ≤ R.frames ∧ 100 ≤ R.locals) (hrep : am_rep b0 b cI cB dC dI s nL H locs ls L h) (hcells : cells + n0 = h.length) (hslots : slots + z0 = am_szs h)  {nx tg a b' w : Nat} {v : Int32} {lv : Int64} {sw : List (Int32 × Nat)} (hE : E = (.l2i, nx, tg, a, b', w, v, lv, sw)) (hok : am_ok1 mt own mnm cc nL ret pc E = true)
    (hk : am_K (am_step scr E L st h) (am_cont p l e R s m args below meth c Q b0 b cI cB dC dI nL n0 z0) Kr Kc) : W p l e R s m args below meth c H locs cells slots Q (F0 m pc ls (st.map (am_cv b0 b))) := by
  subst hE
  obtain ⟨hd0, hok⟩ := am_and hok
  have hd0 := of_decide_eq_true hd0
  obtain ⟨hx, hb, hml, hown, hts, hK, hmn, hb0, hsc⟩ := hc
  obtain ⟨hP, hS, hL⟩ := hrep
  obtain ⟨e9, hd⟩ := am_dec hd0 hok
  subst e9
  obtain ⟨x, r, rfl, hk⟩ := am_j1_inv hk
  have hk : am_cont p l e R s m args below meth c Q b0 b cI cB dC dI nL n0 z0 (_, L, .int x.toInt32 :: r, h) := hk
  exact lv_l2i hx hb hd rfl (hk.2 H locs ls cells slots ⟨hP, hS, hL⟩ hcells hslots)
set_option maxHeartbeats 1000000 in
theorem am_s_i2b {E : am_I} (hc : am_ctx p s m args meth c b0 b cI cB dC dI cc own mnm nL n0 scr) (hroom : 1 ≤ R.frames ∧ 100 ≤ R.locals) (hrep : am_rep b0 b cI cB dC dI s nL H locs ls L h) (hcells : cells + n0 = h.length) (hslots : slots + z0 = am_szs h)  {nx tg a b' w : Nat} {v : Int32} {lv : Int64} {sw : List (Int32 × Nat)} (hE : E = (.i2b, nx, tg, a, b', w, v, lv, sw)) (hok : am_ok1 mt own mnm cc nL ret pc E = true)
    (hk : am_K (am_step scr E L st h) (am_cont p l e R s m args below meth c Q b0 b cI cB dC dI nL n0 z0) Kr Kc) : W p l e R s m args below meth c H locs cells slots Q (F0 m pc ls (st.map (am_cv b0 b))) := by
  subst hE
  obtain ⟨hd0, hok⟩ := am_and hok
  have hd0 := of_decide_eq_true hd0
  obtain ⟨hx, hb, hml, hown, hts, hK, hmn, hb0, hsc⟩ := hc
  obtain ⟨hP, hS, hL⟩ := hrep
  obtain ⟨e9, hd⟩ := am_dec hd0 hok
  subst e9
  obtain ⟨x, r, rfl, hk⟩ := am_i1_inv hk
  have hk : am_cont p l e R s m args below meth c Q b0 b cI cB dC dI nL n0 z0 (_, L, .int x.toInt8.toInt32 :: r, h) := hk
  exact lv_i2b hx hb hd rfl (hk.2 H locs ls cells slots ⟨hP, hS, hL⟩ hcells hslots)
set_option maxHeartbeats 1000000 in
theorem am_s_i2s {E : am_I} (hc : am_ctx p s m args meth c b0 b cI cB dC dI cc own mnm nL n0 scr) (hroom : 1 ≤ R.frames ∧ 100 ≤ R.locals) (hrep : am_rep b0 b cI cB dC dI s nL H locs ls L h) (hcells : cells + n0 = h.length) (hslots : slots + z0 = am_szs h)  {nx tg a b' w : Nat} {v : Int32} {lv : Int64} {sw : List (Int32 × Nat)} (hE : E = (.i2s, nx, tg, a, b', w, v, lv, sw)) (hok : am_ok1 mt own mnm cc nL ret pc E = true)
    (hk : am_K (am_step scr E L st h) (am_cont p l e R s m args below meth c Q b0 b cI cB dC dI nL n0 z0) Kr Kc) : W p l e R s m args below meth c H locs cells slots Q (F0 m pc ls (st.map (am_cv b0 b))) := by
  subst hE
  obtain ⟨hd0, hok⟩ := am_and hok
  have hd0 := of_decide_eq_true hd0
  obtain ⟨hx, hb, hml, hown, hts, hK, hmn, hb0, hsc⟩ := hc
  obtain ⟨hP, hS, hL⟩ := hrep
  obtain ⟨e9, hd⟩ := am_dec hd0 hok
  subst e9
  obtain ⟨x, r, rfl, hk⟩ := am_i1_inv hk
  have hk : am_cont p l e R s m args below meth c Q b0 b cI cB dC dI nL n0 z0 (_, L, .int x.toInt16.toInt32 :: r, h) := hk
  exact lv_i2s hx hb hd rfl (hk.2 H locs ls cells slots ⟨hP, hS, hL⟩ hcells hslots)
set_option maxHeartbeats 1000000 in
theorem am_s_dup {E : am_I} (hc : am_ctx p s m args meth c b0 b cI cB dC dI cc own mnm nL n0 scr) (hroom : 1 ≤ R.frames ∧ 100 ≤ R.locals) (hrep : am_rep b0 b cI cB dC dI s nL H locs ls L h) (hcells : cells + n0 = h.length) (hslots : slots + z0 = am_szs h)  {nx tg a b' w : Nat} {v : Int32} {lv : Int64} {sw : List (Int32 × Nat)} (hE : E = (.dup, nx, tg, a, b', w, v, lv, sw)) (hok : am_ok1 mt own mnm cc nL ret pc E = true)
    (hk : am_K (am_step scr E L st h) (am_cont p l e R s m args below meth c Q b0 b cI cB dC dI nL n0 z0) Kr Kc) : W p l e R s m args below meth c H locs cells slots Q (F0 m pc ls (st.map (am_cv b0 b))) := by
  subst hE
  obtain ⟨hd0, hok⟩ := am_and hok
  have hd0 := of_decide_eq_true hd0
  obtain ⟨hx, hb, hml, hown, hts, hK, hmn, hb0, hsc⟩ := hc
  obtain ⟨hP, hS, hL⟩ := hrep
  obtain ⟨e9, hd⟩ := am_dec hd0 hok
  subst e9
  obtain ⟨x, r, rfl, hk⟩ := am_v1_inv hk
  obtain ⟨hx1, hk⟩ := am_bb_inv hk
  have hk : am_cont p l e R s m args below meth c Q b0 b cI cB dC dI nL n0 z0 (_, L, x :: x :: r, h) := hk
  exact lv_dup hx hb hd ((am_cv_cat b0 b x).trans (am_beq hx1)) (hk.2 H locs ls cells slots ⟨hP, hS, hL⟩ hcells hslots)
set_option maxHeartbeats 1000000 in
theorem am_s_dup2 {E : am_I} (hc : am_ctx p s m args meth c b0 b cI cB dC dI cc own mnm nL n0 scr) (hroom : 1 ≤ R.frames ∧ 100 ≤ R.locals) (hrep : am_rep b0 b cI cB dC dI s nL H locs ls L h) (hcells : cells + n0 = h.length) (hslots : slots + z0 = am_szs h)  {nx tg a b' w : Nat} {v : Int32} {lv : Int64} {sw : List (Int32 × Nat)} (hE : E = (.dup2, nx, tg, a, b', w, v, lv, sw)) (hok : am_ok1 mt own mnm cc nL ret pc E = true)
    (hk : am_K (am_step scr E L st h) (am_cont p l e R s m args below meth c Q b0 b cI cB dC dI nL n0 z0) Kr Kc) : W p l e R s m args below meth c H locs cells slots Q (F0 m pc ls (st.map (am_cv b0 b))) := by
  subst hE
  obtain ⟨hd0, hok⟩ := am_and hok
  have hd0 := of_decide_eq_true hd0
  obtain ⟨hx, hb, hml, hown, hts, hK, hmn, hb0, hsc⟩ := hc
  obtain ⟨hP, hS, hL⟩ := hrep
  obtain ⟨e9, hd⟩ := am_dec hd0 hok
  subst e9
  obtain ⟨x, r, rfl, hk⟩ := am_v1_inv hk
  obtain ⟨y, r, rfl, hk⟩ := am_v1_inv hk
  obtain ⟨hx1, hk⟩ := am_bb_inv hk
  obtain ⟨hx2, hk⟩ := am_bb_inv hk
  have hk : am_cont p l e R s m args below meth c Q b0 b cI cB dC dI nL n0 z0 (_, L, x :: y :: x :: y :: r, h) := hk
  exact lv_dup2_11 hx hb hd ((am_cv_cat b0 b x).trans (am_beq hx1)) ((am_cv_cat b0 b y).trans (am_beq hx2)) (hk.2 H locs ls cells slots ⟨hP, hS, hL⟩ hcells hslots)
set_option maxHeartbeats 1000000 in
theorem am_s_pop {E : am_I} (hc : am_ctx p s m args meth c b0 b cI cB dC dI cc own mnm nL n0 scr) (hroom : 1 ≤ R.frames ∧ 100 ≤ R.locals) (hrep : am_rep b0 b cI cB dC dI s nL H locs ls L h) (hcells : cells + n0 = h.length) (hslots : slots + z0 = am_szs h)  {nx tg a b' w : Nat} {v : Int32} {lv : Int64} {sw : List (Int32 × Nat)} (hE : E = (.pop, nx, tg, a, b', w, v, lv, sw)) (hok : am_ok1 mt own mnm cc nL ret pc E = true)
    (hk : am_K (am_step scr E L st h) (am_cont p l e R s m args below meth c Q b0 b cI cB dC dI nL n0 z0) Kr Kc) : W p l e R s m args below meth c H locs cells slots Q (F0 m pc ls (st.map (am_cv b0 b))) := by
  subst hE
  obtain ⟨hd0, hok⟩ := am_and hok
  have hd0 := of_decide_eq_true hd0
  obtain ⟨hx, hb, hml, hown, hts, hK, hmn, hb0, hsc⟩ := hc
  obtain ⟨hP, hS, hL⟩ := hrep
  obtain ⟨e9, hd⟩ := am_dec hd0 hok
  subst e9
  obtain ⟨x, r, rfl, hk⟩ := am_v1_inv hk
  obtain ⟨hx1, hk⟩ := am_bb_inv hk
  have hk : am_cont p l e R s m args below meth c Q b0 b cI cB dC dI nL n0 z0 (_, L, r, h) := hk
  exact lv_pop hx hb hd ((am_cv_cat b0 b x).trans (am_beq hx1)) (hk.2 H locs ls cells slots ⟨hP, hS, hL⟩ hcells hslots)
set_option maxHeartbeats 1000000 in
theorem am_s_goto {E : am_I} (hc : am_ctx p s m args meth c b0 b cI cB dC dI cc own mnm nL n0 scr) (hroom : 1 ≤ R.frames ∧ 100 ≤ R.locals) (hrep : am_rep b0 b cI cB dC dI s nL H locs ls L h) (hcells : cells + n0 = h.length) (hslots : slots + z0 = am_szs h) {o : Int} {nx tg a b' w : Nat} {v : Int32} {lv : Int64} {sw : List (Int32 × Nat)} (hE : E = (.goto o, nx, tg, a, b', w, v, lv, sw)) (hok : am_ok1 mt own mnm cc nL ret pc E = true)
    (hk : am_K (am_step scr E L st h) (am_cont p l e R s m args below meth c Q b0 b cI cB dC dI nL n0 z0) Kr Kc) : W p l e R s m args below meth c H locs cells slots Q (F0 m pc ls (st.map (am_cv b0 b))) := by
  subst hE
  obtain ⟨hd0, hok⟩ := am_and hok
  have hd0 := of_decide_eq_true hd0
  obtain ⟨hx, hb, hml, hown, hts, hK, hmn, hb0, hsc⟩ := hc
  obtain ⟨hP, hS, hL⟩ := hrep
  obtain ⟨hl, hv⟩ := am_and hok
  obtain ⟨e9, hd⟩ := am_dec hd0 hl
  subst e9
  have hk : am_cont p l e R s m args below meth c Q b0 b cI cB dC dI nL n0 z0 (tg, L, st, h) := hk
  exact lv_goto hx hb hd (of_decide_eq_true hv) (hk.2 H locs ls cells slots ⟨hP, hS, hL⟩ hcells hslots)
set_option maxHeartbeats 1000000 in
theorem am_s_icmp {E : am_I} (hc : am_ctx p s m args meth c b0 b cI cB dC dI cc own mnm nL n0 scr) (hroom : 1 ≤ R.frames ∧ 100 ≤ R.locals) (hrep : am_rep b0 b cI cB dC dI s nL H locs ls L h) (hcells : cells + n0 = h.length) (hslots : slots + z0 = am_szs h) {cd : ClassFile.Cond} {o : Int} {nx tg a b' w : Nat} {v : Int32} {lv : Int64} {sw : List (Int32 × Nat)} (hE : E = (.if_icmp cd o, nx, tg, a, b', w, v, lv, sw)) (hok : am_ok1 mt own mnm cc nL ret pc E = true)
    (hk : am_K (am_step scr E L st h) (am_cont p l e R s m args below meth c Q b0 b cI cB dC dI nL n0 z0) Kr Kc) : W p l e R s m args below meth c H locs cells slots Q (F0 m pc ls (st.map (am_cv b0 b))) := by
  subst hE
  obtain ⟨hd0, hok⟩ := am_and hok
  have hd0 := of_decide_eq_true hd0
  obtain ⟨hx, hb, hml, hown, hts, hK, hmn, hb0, hsc⟩ := hc
  obtain ⟨hP, hS, hL⟩ := hrep
  obtain ⟨hl, hv⟩ := am_and hok
  obtain ⟨e9, hd⟩ := am_dec hd0 hl
  subst e9
  obtain ⟨x, y, r, rfl, hk⟩ := am_i2_inv hk
  cases cd with
  | eq =>
    have hk : (x = y → am_cont p l e R s m args below meth c Q b0 b cI cB dC dI nL n0 z0 (tg, L, r, h)) ∧ (¬ (x = y) → am_cont p l e R s m args below meth c Q b0 b cI cB dC dI nL n0 z0 (_, L, r, h)) := hk
    exact lv_icmp_eq hx hb hd (of_decide_eq_true hv) (fun q => ((hk.1 q).2 H locs ls cells slots ⟨hP, hS, hL⟩ hcells hslots)) (fun q => ((hk.2 q).2 H locs ls cells slots ⟨hP, hS, hL⟩ hcells hslots))
  | ne =>
    have hk : (x = y → am_cont p l e R s m args below meth c Q b0 b cI cB dC dI nL n0 z0 (_, L, r, h)) ∧ (¬ (x = y) → am_cont p l e R s m args below meth c Q b0 b cI cB dC dI nL n0 z0 (tg, L, r, h)) := hk
    exact lv_icmp_ne hx hb hd (of_decide_eq_true hv) (fun q => ((hk.2 q).2 H locs ls cells slots ⟨hP, hS, hL⟩ hcells hslots)) (fun q => ((hk.1 q).2 H locs ls cells slots ⟨hP, hS, hL⟩ hcells hslots))
  | lt =>
    have hk : (x < y → am_cont p l e R s m args below meth c Q b0 b cI cB dC dI nL n0 z0 (tg, L, r, h)) ∧ (¬ (x < y) → am_cont p l e R s m args below meth c Q b0 b cI cB dC dI nL n0 z0 (_, L, r, h)) := hk
    exact lv_icmp_lt hx hb hd (of_decide_eq_true hv) (fun q => ((hk.1 q).2 H locs ls cells slots ⟨hP, hS, hL⟩ hcells hslots)) (fun q => ((hk.2 q).2 H locs ls cells slots ⟨hP, hS, hL⟩ hcells hslots))
  | ge =>
    have hk : (y ≤ x → am_cont p l e R s m args below meth c Q b0 b cI cB dC dI nL n0 z0 (tg, L, r, h)) ∧ (¬ (y ≤ x) → am_cont p l e R s m args below meth c Q b0 b cI cB dC dI nL n0 z0 (_, L, r, h)) := hk
    exact lv_icmp_ge hx hb hd (of_decide_eq_true hv) (fun q => ((hk.1 q).2 H locs ls cells slots ⟨hP, hS, hL⟩ hcells hslots)) (fun q => ((hk.2 q).2 H locs ls cells slots ⟨hP, hS, hL⟩ hcells hslots))
  | gt =>
    have hk : (y < x → am_cont p l e R s m args below meth c Q b0 b cI cB dC dI nL n0 z0 (tg, L, r, h)) ∧ (¬ (y < x) → am_cont p l e R s m args below meth c Q b0 b cI cB dC dI nL n0 z0 (_, L, r, h)) := hk
    exact lv_icmp_gt hx hb hd (of_decide_eq_true hv) (fun q => ((hk.1 q).2 H locs ls cells slots ⟨hP, hS, hL⟩ hcells hslots)) (fun q => ((hk.2 q).2 H locs ls cells slots ⟨hP, hS, hL⟩ hcells hslots))
  | le =>
    have hk : (x ≤ y → am_cont p l e R s m args below meth c Q b0 b cI cB dC dI nL n0 z0 (tg, L, r, h)) ∧ (¬ (x ≤ y) → am_cont p l e R s m args below meth c Q b0 b cI cB dC dI nL n0 z0 (_, L, r, h)) := hk
    exact lv_icmp_le hx hb hd (of_decide_eq_true hv) (fun q => ((hk.1 q).2 H locs ls cells slots ⟨hP, hS, hL⟩ hcells hslots)) (fun q => ((hk.2 q).2 H locs ls cells slots ⟨hP, hS, hL⟩ hcells hslots))
set_option maxHeartbeats 1000000 in
theorem am_s_ifc {E : am_I} (hc : am_ctx p s m args meth c b0 b cI cB dC dI cc own mnm nL n0 scr) (hroom : 1 ≤ R.frames ∧ 100 ≤ R.locals) (hrep : am_rep b0 b cI cB dC dI s nL H locs ls L h) (hcells : cells + n0 = h.length) (hslots : slots + z0 = am_szs h) {cd : ClassFile.Cond} {o : Int} {nx tg a b' w : Nat} {v : Int32} {lv : Int64} {sw : List (Int32 × Nat)} (hE : E = (.ifCond cd o, nx, tg, a, b', w, v, lv, sw)) (hok : am_ok1 mt own mnm cc nL ret pc E = true)
    (hk : am_K (am_step scr E L st h) (am_cont p l e R s m args below meth c Q b0 b cI cB dC dI nL n0 z0) Kr Kc) : W p l e R s m args below meth c H locs cells slots Q (F0 m pc ls (st.map (am_cv b0 b))) := by
  subst hE
  obtain ⟨hd0, hok⟩ := am_and hok
  have hd0 := of_decide_eq_true hd0
  obtain ⟨hx, hb, hml, hown, hts, hK, hmn, hb0, hsc⟩ := hc
  obtain ⟨hP, hS, hL⟩ := hrep
  obtain ⟨hl, hv⟩ := am_and hok
  obtain ⟨e9, hd⟩ := am_dec hd0 hl
  subst e9
  obtain ⟨x, r, rfl, hk⟩ := am_i1_inv hk
  cases cd with
  | eq =>
    have hk : (x = 0 → am_cont p l e R s m args below meth c Q b0 b cI cB dC dI nL n0 z0 (tg, L, r, h)) ∧ (¬ (x = 0) → am_cont p l e R s m args below meth c Q b0 b cI cB dC dI nL n0 z0 (_, L, r, h)) := hk
    exact lv_if_eq hx hb hd (of_decide_eq_true hv) (fun q => ((hk.1 q).2 H locs ls cells slots ⟨hP, hS, hL⟩ hcells hslots)) (fun q => ((hk.2 q).2 H locs ls cells slots ⟨hP, hS, hL⟩ hcells hslots))
  | ne =>
    have hk : (x = 0 → am_cont p l e R s m args below meth c Q b0 b cI cB dC dI nL n0 z0 (_, L, r, h)) ∧ (¬ (x = 0) → am_cont p l e R s m args below meth c Q b0 b cI cB dC dI nL n0 z0 (tg, L, r, h)) := hk
    exact lv_if_ne hx hb hd (of_decide_eq_true hv) (fun q => ((hk.2 q).2 H locs ls cells slots ⟨hP, hS, hL⟩ hcells hslots)) (fun q => ((hk.1 q).2 H locs ls cells slots ⟨hP, hS, hL⟩ hcells hslots))
  | lt =>
    have hk : (x < 0 → am_cont p l e R s m args below meth c Q b0 b cI cB dC dI nL n0 z0 (tg, L, r, h)) ∧ (¬ (x < 0) → am_cont p l e R s m args below meth c Q b0 b cI cB dC dI nL n0 z0 (_, L, r, h)) := hk
    exact lv_if_lt hx hb hd (of_decide_eq_true hv) (fun q => ((hk.1 q).2 H locs ls cells slots ⟨hP, hS, hL⟩ hcells hslots)) (fun q => ((hk.2 q).2 H locs ls cells slots ⟨hP, hS, hL⟩ hcells hslots))
  | ge =>
    have hk : (0 ≤ x → am_cont p l e R s m args below meth c Q b0 b cI cB dC dI nL n0 z0 (tg, L, r, h)) ∧ (¬ (0 ≤ x) → am_cont p l e R s m args below meth c Q b0 b cI cB dC dI nL n0 z0 (_, L, r, h)) := hk
    exact lv_if_ge hx hb hd (of_decide_eq_true hv) (fun q => ((hk.1 q).2 H locs ls cells slots ⟨hP, hS, hL⟩ hcells hslots)) (fun q => ((hk.2 q).2 H locs ls cells slots ⟨hP, hS, hL⟩ hcells hslots))
  | gt =>
    have hk : (0 < x → am_cont p l e R s m args below meth c Q b0 b cI cB dC dI nL n0 z0 (tg, L, r, h)) ∧ (¬ (0 < x) → am_cont p l e R s m args below meth c Q b0 b cI cB dC dI nL n0 z0 (_, L, r, h)) := hk
    exact lv_if_gt hx hb hd (of_decide_eq_true hv) (fun q => ((hk.1 q).2 H locs ls cells slots ⟨hP, hS, hL⟩ hcells hslots)) (fun q => ((hk.2 q).2 H locs ls cells slots ⟨hP, hS, hL⟩ hcells hslots))
  | le =>
    have hk : (x ≤ 0 → am_cont p l e R s m args below meth c Q b0 b cI cB dC dI nL n0 z0 (tg, L, r, h)) ∧ (¬ (x ≤ 0) → am_cont p l e R s m args below meth c Q b0 b cI cB dC dI nL n0 z0 (_, L, r, h)) := hk
    exact lv_if_le hx hb hd (of_decide_eq_true hv) (fun q => ((hk.1 q).2 H locs ls cells slots ⟨hP, hS, hL⟩ hcells hslots)) (fun q => ((hk.2 q).2 H locs ls cells slots ⟨hP, hS, hL⟩ hcells hslots))
set_option maxHeartbeats 1000000 in
theorem am_s_tsw {E : am_I} (hc : am_ctx p s m args meth c b0 b cI cB dC dI cc own mnm nL n0 scr) (hroom : 1 ≤ R.frames ∧ 100 ≤ R.locals) (hrep : am_rep b0 b cI cB dC dI s nL H locs ls L h) (hcells : cells + n0 = h.length) (hslots : slots + z0 = am_szs h) {d lo hi : Int} {os : Array Int} {nx tg a b' w : Nat} {v : Int32} {lv : Int64} {sw : List (Int32 × Nat)} (hE : E = (.tableswitch d lo hi os, nx, tg, a, b', w, v, lv, sw)) (hok : am_ok1 mt own mnm cc nL ret pc E = true)
    (hk : am_K (am_step scr E L st h) (am_cont p l e R s m args below meth c Q b0 b cI cB dC dI nL n0 z0) Kr Kc) : W p l e R s m args below meth c H locs cells slots Q (F0 m pc ls (st.map (am_cv b0 b))) := by
  subst hE
  obtain ⟨hd0, hok⟩ := am_and hok
  have hd0 := of_decide_eq_true hd0
  obtain ⟨hx, hb, hml, hown, hts, hK, hmn, hb0, hsc⟩ := hc
  obtain ⟨hP, hS, hL⟩ := hrep
  obtain ⟨hok, hsw⟩ := am_and hok
  obtain ⟨hok, hsz⟩ := am_and hok
  obtain ⟨hle, hdf⟩ := am_and hok
  have hsz := of_decide_eq_true hsz
  obtain ⟨x, r, rfl, hk⟩ := am_i1_inv hk
  have hk : am_cont p l e R s m args below meth c Q b0 b cI cB dC dI nL n0 z0 (am_pick x sw tg, L, r, h) := hk
  obtain ⟨i1, i2⟩ := am_sws_pick (x := x) (d := tg) os.toList sw lo hsw
  rw [Array.length_toList] at i1 i2
  by_cases hin : lo ≤ x.toInt ∧ x.toInt < lo + os.size
  · obtain ⟨off, e1, e2⟩ := i1 hin
    exact lv_tableIn hx hb hd0 (by omega) (by omega) (by rw [← Array.getElem?_toList]; exact e1) e2 (hk.2 H locs ls cells slots ⟨hP, hS, hL⟩ hcells hslots)
  · have e := i2 hin
    rw [e] at hk
    exact lv_tableOut hx hb hd0 (by omega) (of_decide_eq_true hdf) (hk.2 H locs ls cells slots ⟨hP, hS, hL⟩ hcells hslots)
set_option maxHeartbeats 1000000 in
theorem am_s_lsw {E : am_I} (hc : am_ctx p s m args meth c b0 b cI cB dC dI cc own mnm nL n0 scr) (hroom : 1 ≤ R.frames ∧ 100 ≤ R.locals) (hrep : am_rep b0 b cI cB dC dI s nL H locs ls L h) (hcells : cells + n0 = h.length) (hslots : slots + z0 = am_szs h) {d : Int} {ps : Array (Int × Int)} {nx tg a b' w : Nat} {v : Int32} {lv : Int64} {sw : List (Int32 × Nat)} (hE : E = (.lookupswitch d ps, nx, tg, a, b', w, v, lv, sw)) (hok : am_ok1 mt own mnm cc nL ret pc E = true)
    (hk : am_K (am_step scr E L st h) (am_cont p l e R s m args below meth c Q b0 b cI cB dC dI nL n0 z0) Kr Kc) : W p l e R s m args below meth c H locs cells slots Q (F0 m pc ls (st.map (am_cv b0 b))) := by
  subst hE
  obtain ⟨hd0, hok⟩ := am_and hok
  have hd0 := of_decide_eq_true hd0
  obtain ⟨hx, hb, hml, hown, hts, hK, hmn, hb0, hsc⟩ := hc
  obtain ⟨hP, hS, hL⟩ := hrep
  obtain ⟨hok, hsw⟩ := am_and hok
  obtain ⟨hok, hso⟩ := am_and hok
  obtain ⟨hle, hdf⟩ := am_and hok
  obtain ⟨x, r, rfl, hk⟩ := am_i1_inv hk
  have hk : am_cont p l e R s m args below meth c Q b0 b cI cB dC dI nL n0 z0 (am_pick x sw tg, L, r, h) := hk
  exact lv_lookup hx hb hd0 hso rfl (am_swl_pick (x := x) (of_decide_eq_true hdf) ps.toList sw hsw) (hk.2 H locs ls cells slots ⟨hP, hS, hL⟩ hcells hslots)
set_option maxHeartbeats 1000000 in
theorem am_s_getf {E : am_I} (hc : am_ctx p s m args meth c b0 b cI cB dC dI cc own mnm nL n0 scr) (hroom : 1 ≤ R.frames ∧ 100 ≤ R.locals) (hrep : am_rep b0 b cI cB dC dI s nL H locs ls L h) (hcells : cells + n0 = h.length) (hslots : slots + z0 = am_szs h) {i : Nat} {nx tg a b' w : Nat} {v : Int32} {lv : Int64} {sw : List (Int32 × Nat)} (hE : E = (.getfield i, nx, tg, a, b', w, v, lv, sw)) (hok : am_ok1 mt own mnm cc nL ret pc E = true)
    (hk : am_K (am_step scr E L st h) (am_cont p l e R s m args below meth c Q b0 b cI cB dC dI nL n0 z0) Kr Kc) : W p l e R s m args below meth c H locs cells slots Q (F0 m pc ls (st.map (am_cv b0 b))) := by
  subst hE
  obtain ⟨hd0, hok⟩ := am_and hok
  have hd0 := of_decide_eq_true hd0
  obtain ⟨hx, hb, hml, hown, hts, hK, hmn, hb0, hsc⟩ := hc
  obtain ⟨hP, hS, hL⟩ := hrep
  obtain ⟨hl, hf⟩ := am_and hok
  obtain ⟨e9, hd⟩ := am_dec hd0 hl
  subst e9
  obtain ⟨q0, r, rfl, hk1⟩ := am_r1_inv hk
  obtain ⟨ci, fs, hq, hk2⟩ := am_ob_inv hk1
  obtain ⟨hci, hk3⟩ := am_bb_inv hk2
  cases am_beq hci
  have hk := hk3
  obtain ⟨x, hfx, hk⟩ := am_fl_inv hk
  have hk : am_cont p l e R s m args below meth c Q b0 b cI cB dC dI nL n0 z0 (_, L, x :: r, h) := hk
  unfold am_fld at hf
  split at hf
  next q hcl =>
    simp only [Bool.and_eq_true, decide_eq_true_eq] at hf
    obtain ⟨⟨hbn, hw⟩, hsm⟩ := hf
    have hbn := Nat.blt_eq.mp hbn
    obtain ⟨g1, g2, g3, -⟩ := am_cls _ _ hcl
    obtain ⟨C, T, N⟩ := q
    dsimp only at hsm hbn hw g1 g2 g3
    have hlk := am_hts hts hw rfl
    have hsame : ∀ x, s.fieldFound? (T b').1 (T b').2.1 (T b').2.2.1 = some x → s.fieldFound? C (T b').2.1 (T b').2.2.1 = some x := fun x hx => by rw [← hsm]; exact hx
    exact va_get hx hb hts g3 hown hK hP q0 (am_cw_get hq) hcl b' hbn hlk hsame (by rw [List.getElem?_map, hfx]; rfl) hd (hk.2 H locs ls cells slots ⟨hP, hS, hL⟩ hcells hslots)
  next => cases hf
set_option maxHeartbeats 1000000 in
theorem am_s_putf {E : am_I} (hc : am_ctx p s m args meth c b0 b cI cB dC dI cc own mnm nL n0 scr) (hroom : 1 ≤ R.frames ∧ 100 ≤ R.locals) (hrep : am_rep b0 b cI cB dC dI s nL H locs ls L h) (hcells : cells + n0 = h.length) (hslots : slots + z0 = am_szs h) {i : Nat} {nx tg a b' w : Nat} {v : Int32} {lv : Int64} {sw : List (Int32 × Nat)} (hE : E = (.putfield i, nx, tg, a, b', w, v, lv, sw)) (hok : am_ok1 mt own mnm cc nL ret pc E = true)
    (hk : am_K (am_step scr E L st h) (am_cont p l e R s m args below meth c Q b0 b cI cB dC dI nL n0 z0) Kr Kc) : W p l e R s m args below meth c H locs cells slots Q (F0 m pc ls (st.map (am_cv b0 b))) := by
  subst hE
  obtain ⟨hd0, hok⟩ := am_and hok
  have hd0 := of_decide_eq_true hd0
  obtain ⟨hx, hb, hml, hown, hts, hK, hmn, hb0, hsc⟩ := hc
  obtain ⟨hP, hS, hL⟩ := hrep
  obtain ⟨hok, hmd⟩ := am_and hok
  obtain ⟨hl, hf⟩ := am_and hok
  obtain ⟨e9, hd⟩ := am_dec hd0 hl
  subst e9
  obtain ⟨v0, r, rfl, hk0⟩ := am_v1_inv hk
  obtain ⟨q0, r, rfl, hk1⟩ := am_r1_inv hk0
  obtain ⟨ci, fs, hq, hk2⟩ := am_ob_inv hk1
  obtain ⟨hci, hk3⟩ := am_bb_inv hk2
  cases am_beq hci
  have hk := hk3
  obtain ⟨hbl, hk⟩ := am_bb_inv hk
  have hbl := Nat.blt_eq.mp hbl
  unfold am_fld at hf
  split at hf
  next q hcl =>
    simp only [Bool.and_eq_true, decide_eq_true_eq] at hf
    obtain ⟨⟨hbn, hw⟩, hsm⟩ := hf
    have hbn := Nat.blt_eq.mp hbn
    obtain ⟨g1, g2, g3, -⟩ := am_cls _ _ hcl
    obtain ⟨C, T, N⟩ := q
    dsimp only at hsm hbn hw g1 g2 g3
    have hlk := am_hts hts hw rfl
    have hsame : ∀ x, s.fieldFound? (T b').1 (T b').2.1 (T b').2.2.1 = some x → s.fieldFound? C (T b').2.1 (T b').2.2.1 = some x := fun x hx => by rw [← hsm]; exact hx
    have hfin0 : am_fin a b' = (T b').2.2.2 := by simp only [am_fin, hcl]
    have hown0 : am_own own a = decide (C = own) := by simp only [am_own, hcl]
    have hlen : b' < (fs.map (am_cv b0 b)).length := by simpa using hbl
    match tg, hmd, hk with
    | 0, hmd, hk =>
      simp only [Bool.and_eq_true, decide_eq_true_eq, Bool.not_eq_true', hfin0] at hmd
      obtain ⟨y, rfl, hk⟩ := am_vi_inv hk
      have hk : am_cont p l e R s m args below meth c Q b0 b cI cB dC dI nL n0 z0 (_, L, r, h.set q0 (.inr (a, fs.set b' (.int y)))) := hk
      exact va_put hx hb hts g3 (am_ty a) g1 g2 hown hK hP (am_cw_D h) hS q0 (am_cw_get hq) hcl b' hbn hlk hsame hmd.2 (g1 b' hbn) (by rw [hmd.1]; rfl) (by rw [hmd.1]; rfl) hlen hd (fun H1 locs1 hP1 hD1 hS1 => hk.2 H1 locs1 ls cells slots ⟨by rw [am_cw_set, Nat.zero_add]; simpa [am_ce, List.map_set, am_cv] using hP1, hS1, hL⟩ (by simpa using hcells) (hslots.trans (am_szs_setF hq).symm))
    | 1, hmd, hk =>
      simp only [Bool.and_eq_true, decide_eq_true_eq, Bool.not_eq_true', hfin0] at hmd
      obtain ⟨y, rfl, hk⟩ := am_vi_inv hk
      have hk : (y = 0 ∨ y = 1) ∧ am_cont p l e R s m args below meth c Q b0 b cI cB dC dI nL n0 z0 (_, L, r, h.set q0 (.inr (a, fs.set b' (.int y)))) := hk
      exact va_put hx hb hts g3 (am_ty a) g1 g2 hown hK hP (am_cw_D h) hS q0 (am_cw_get hq) hcl b' hbn hlk hsame hmd.2 (g1 b' hbn) (by rw [hmd.1]; rcases hk.1 with rfl | rfl <;> rfl) (by rw [hmd.1]; rcases hk.1 with rfl | rfl <;> rfl) hlen hd (fun H1 locs1 hP1 hD1 hS1 => hk.2.2 H1 locs1 ls cells slots ⟨by rw [am_cw_set, Nat.zero_add]; simpa [am_ce, List.map_set, am_cv] using hP1, hS1, hL⟩ (by simpa using hcells) (hslots.trans (am_szs_setF hq).symm))
    | t + 2, hmd, hk =>
      simp only [Bool.and_eq_true, decide_eq_true_eq, hfin0, hown0] at hmd
      obtain ⟨⟨⟨h1, h2⟩, h3⟩, h4⟩ := hmd
      obtain ⟨y, rfl, hk⟩ := am_vr_inv hk
      have hk : am_cont p l e R s m args below meth c Q b0 b cI cB dC dI nL n0 z0 (_, L, r, h.set q0 (.inr (a, fs.set b' (.ref y)))) := hk
      exact va_putF hx hb hts g3 (am_ty a) g1 g2 hown hK hP (am_cw_D h) hS q0 (am_cw_get hq) hcl b' hbn hlk hsame h1 ((hmn h3).trans h3) (hsm.trans h2) (g1 b' hbn) (by revert h4; cases am_ty a b' <;> simp [narrow, am_cv]) (by revert h4; cases am_ty a b' <;> simp [fits, am_cv]) hlen hd (fun H1 locs1 hP1 hD1 hS1 => hk.2 H1 locs1 ls cells slots ⟨by rw [am_cw_set, Nat.zero_add]; simpa [am_ce, List.map_set, am_cv] using hP1, hS1, hL⟩ (by simpa using hcells) (hslots.trans (am_szs_setF hq).symm))
  next => cases hf
set_option maxHeartbeats 1000000 in
theorem am_s_iald {E : am_I} (hc : am_ctx p s m args meth c b0 b cI cB dC dI cc own mnm nL n0 scr) (hroom : 1 ≤ R.frames ∧ 100 ≤ R.locals) (hrep : am_rep b0 b cI cB dC dI s nL H locs ls L h) (hcells : cells + n0 = h.length) (hslots : slots + z0 = am_szs h)  {nx tg a b' w : Nat} {v : Int32} {lv : Int64} {sw : List (Int32 × Nat)} (hE : E = (.iaload, nx, tg, a, b', w, v, lv, sw)) (hok : am_ok1 mt own mnm cc nL ret pc E = true)
    (hk : am_K (am_step scr E L st h) (am_cont p l e R s m args below meth c Q b0 b cI cB dC dI nL n0 z0) Kr Kc) : W p l e R s m args below meth c H locs cells slots Q (F0 m pc ls (st.map (am_cv b0 b))) := by
  subst hE
  obtain ⟨hd0, hok⟩ := am_and hok
  have hd0 := of_decide_eq_true hd0
  obtain ⟨hx, hb, hml, hown, hts, hK, hmn, hb0, hsc⟩ := hc
  obtain ⟨hP, hS, hL⟩ := hrep
  obtain ⟨e9, hd⟩ := am_dec hd0 hok
  subst e9
  obtain ⟨i, r, rfl, hk⟩ := am_i1_inv hk
  obtain ⟨v0, r, rfl, hk⟩ := am_v1_inv hk
  rcases am_il_inv hk with ⟨q, n, g, rfl, hq, h1, hk⟩ | ⟨x, n, g, rfl, hs, h1, hk⟩
  · exact va_iald hx hb hK hP q 0 (am_cw_get hq) rfl h1 hd (hk.2 H locs ls cells slots ⟨hP, hS, hL⟩ hcells hslots)
  · obtain ⟨hX, hlt⟩ := hsc _ _ hs
    exact va_sld hx hb hX (by omega) (Nat.not_le.mpr hlt) hS h1 hd (hk.2 H locs ls cells slots ⟨hP, hS, hL⟩ hcells hslots)
set_option maxHeartbeats 1000000 in
theorem am_s_bald {E : am_I} (hc : am_ctx p s m args meth c b0 b cI cB dC dI cc own mnm nL n0 scr) (hroom : 1 ≤ R.frames ∧ 100 ≤ R.locals) (hrep : am_rep b0 b cI cB dC dI s nL H locs ls L h) (hcells : cells + n0 = h.length) (hslots : slots + z0 = am_szs h)  {nx tg a b' w : Nat} {v : Int32} {lv : Int64} {sw : List (Int32 × Nat)} (hE : E = (.baload, nx, tg, a, b', w, v, lv, sw)) (hok : am_ok1 mt own mnm cc nL ret pc E = true)
    (hk : am_K (am_step scr E L st h) (am_cont p l e R s m args below meth c Q b0 b cI cB dC dI nL n0 z0) Kr Kc) : W p l e R s m args below meth c H locs cells slots Q (F0 m pc ls (st.map (am_cv b0 b))) := by
  subst hE
  obtain ⟨hd0, hok⟩ := am_and hok
  have hd0 := of_decide_eq_true hd0
  obtain ⟨hx, hb, hml, hown, hts, hK, hmn, hb0, hsc⟩ := hc
  obtain ⟨hP, hS, hL⟩ := hrep
  obtain ⟨e9, hd⟩ := am_dec hd0 hok
  subst e9
  obtain ⟨i, r, rfl, hk⟩ := am_i1_inv hk
  obtain ⟨q, r, rfl, hk⟩ := am_r1_inv hk
  obtain ⟨n, g, hq, hk⟩ := am_ar_inv hk
  have hk : vp_in i n ∧ am_cont p l e R s m args below meth c Q b0 b cI cB dC dI nL n0 z0 (_, L, .int (g i.toNatClampNeg) :: r, h) := hk
  exact va_zald hx hb hK hP q 1 (am_cw_get hq) rfl hk.1 hd (hk.2.2 H locs ls cells slots ⟨hP, hS, hL⟩ hcells hslots)
set_option maxHeartbeats 1000000 in
theorem am_s_iast {E : am_I} (hc : am_ctx p s m args meth c b0 b cI cB dC dI cc own mnm nL n0 scr) (hroom : 1 ≤ R.frames ∧ 100 ≤ R.locals) (hrep : am_rep b0 b cI cB dC dI s nL H locs ls L h) (hcells : cells + n0 = h.length) (hslots : slots + z0 = am_szs h)  {nx tg a b' w : Nat} {v : Int32} {lv : Int64} {sw : List (Int32 × Nat)} (hE : E = (.iastore, nx, tg, a, b', w, v, lv, sw)) (hok : am_ok1 mt own mnm cc nL ret pc E = true)
    (hk : am_K (am_step scr E L st h) (am_cont p l e R s m args below meth c Q b0 b cI cB dC dI nL n0 z0) Kr Kc) : W p l e R s m args below meth c H locs cells slots Q (F0 m pc ls (st.map (am_cv b0 b))) := by
  subst hE
  obtain ⟨hd0, hok⟩ := am_and hok
  have hd0 := of_decide_eq_true hd0
  obtain ⟨hx, hb, hml, hown, hts, hK, hmn, hb0, hsc⟩ := hc
  obtain ⟨hP, hS, hL⟩ := hrep
  obtain ⟨e9, hd⟩ := am_dec hd0 hok
  subst e9
  obtain ⟨i, x, r, rfl, hk⟩ := am_i2_inv hk
  obtain ⟨q0, r, rfl, hk⟩ := am_r1_inv hk
  obtain ⟨n, g, hq, hk⟩ := am_ar_inv hk
  have hk : vp_in i n ∧ am_cont p l e R s m args below meth c Q b0 b cI cB dC dI nL n0 z0 (_, L, r, h.set q0 (.inl (false, n, upd g i.toNatClampNeg x))) := hk
  exact va_iast hx hb hK hP (am_cw_D h) hS q0 0 (am_cw_get hq) rfl hk.1 hd (fun H1 locs1 hP1 hD1 hS1 => hk.2.2 H1 locs1 ls cells slots ⟨by rw [am_cw_set, Nat.zero_add]; simpa [am_ce, List.map_set, am_cv] using hP1, hS1, hL⟩ (by simpa using hcells) (hslots.trans (am_szs_setA hq).symm))
set_option maxHeartbeats 1000000 in
theorem am_s_bast {E : am_I} (hc : am_ctx p s m args meth c b0 b cI cB dC dI cc own mnm nL n0 scr) (hroom : 1 ≤ R.frames ∧ 100 ≤ R.locals) (hrep : am_rep b0 b cI cB dC dI s nL H locs ls L h) (hcells : cells + n0 = h.length) (hslots : slots + z0 = am_szs h)  {nx tg a b' w : Nat} {v : Int32} {lv : Int64} {sw : List (Int32 × Nat)} (hE : E = (.bastore, nx, tg, a, b', w, v, lv, sw)) (hok : am_ok1 mt own mnm cc nL ret pc E = true)
    (hk : am_K (am_step scr E L st h) (am_cont p l e R s m args below meth c Q b0 b cI cB dC dI nL n0 z0) Kr Kc) : W p l e R s m args below meth c H locs cells slots Q (F0 m pc ls (st.map (am_cv b0 b))) := by
  subst hE
  obtain ⟨hd0, hok⟩ := am_and hok
  have hd0 := of_decide_eq_true hd0
  obtain ⟨hx, hb, hml, hown, hts, hK, hmn, hb0, hsc⟩ := hc
  obtain ⟨hP, hS, hL⟩ := hrep
  obtain ⟨e9, hd⟩ := am_dec hd0 hok
  subst e9
  obtain ⟨i, x, r, rfl, hk⟩ := am_i2_inv hk
  obtain ⟨q0, r, rfl, hk⟩ := am_r1_inv hk
  obtain ⟨n, g, hq, hk⟩ := am_ar_inv hk
  have hk : vp_in i n ∧ am_cont p l e R s m args below meth c Q b0 b cI cB dC dI nL n0 z0 (_, L, r, h.set q0 (.inl (true, n, upd g i.toNatClampNeg (vp_nar .boolean x)))) := hk
  exact va_zast hx hb hK hP (am_cw_D h) hS q0 1 (am_cw_get hq) rfl hk.1 hd (fun H1 locs1 hP1 hD1 hS1 => hk.2.2 H1 locs1 ls cells slots ⟨by rw [am_cw_set, Nat.zero_add]; simpa [am_ce, List.map_set, am_cv] using hP1, hS1, hL⟩ (by simpa using hcells) (hslots.trans (am_szs_setA hq).symm))
set_option maxHeartbeats 1000000 in
theorem am_s_alen {E : am_I} (hc : am_ctx p s m args meth c b0 b cI cB dC dI cc own mnm nL n0 scr) (hroom : 1 ≤ R.frames ∧ 100 ≤ R.locals) (hrep : am_rep b0 b cI cB dC dI s nL H locs ls L h) (hcells : cells + n0 = h.length) (hslots : slots + z0 = am_szs h)  {nx tg a b' w : Nat} {v : Int32} {lv : Int64} {sw : List (Int32 × Nat)} (hE : E = (.arraylength, nx, tg, a, b', w, v, lv, sw)) (hok : am_ok1 mt own mnm cc nL ret pc E = true)
    (hk : am_K (am_step scr E L st h) (am_cont p l e R s m args below meth c Q b0 b cI cB dC dI nL n0 z0) Kr Kc) : W p l e R s m args below meth c H locs cells slots Q (F0 m pc ls (st.map (am_cv b0 b))) := by
  subst hE
  obtain ⟨hd0, hok⟩ := am_and hok
  have hd0 := of_decide_eq_true hd0
  obtain ⟨hx, hb, hml, hown, hts, hK, hmn, hb0, hsc⟩ := hc
  obtain ⟨hP, hS, hL⟩ := hrep
  obtain ⟨e9, hd⟩ := am_dec hd0 hok
  subst e9
  obtain ⟨v0, r, rfl, hk⟩ := am_v1_inv hk
  obtain ⟨x, n, g, rfl, hs, hk⟩ := am_sc_inv hk
  have hk : am_cont p l e R s m args below meth c Q b0 b cI cB dC dI nL n0 z0 (_, L, .int (Int32.ofNat n) :: r, h) := hk
  obtain ⟨hX, hlt⟩ := hsc _ _ hs
  exact va_slen hx hb hX (by omega) (Nat.not_le.mpr hlt) hS hd (hk.2 H locs ls cells slots ⟨hP, hS, hL⟩ hcells hslots)
set_option maxHeartbeats 1000000 in
theorem am_s_new {E : am_I} (hc : am_ctx p s m args meth c b0 b cI cB dC dI cc own mnm nL n0 scr) (hroom : 1 ≤ R.frames ∧ 100 ≤ R.locals) (hrep : am_rep b0 b cI cB dC dI s nL H locs ls L h) (hcells : cells + n0 = h.length) (hslots : slots + z0 = am_szs h) {i : Nat} {nx tg a b' w : Nat} {v : Int32} {lv : Int64} {sw : List (Int32 × Nat)} (hE : E = (.new i, nx, tg, a, b', w, v, lv, sw)) (hok : am_ok1 mt own mnm cc nL ret pc E = true)
    (hk : am_K (am_step scr E L st h) (am_cont p l e R s m args below meth c Q b0 b cI cB dC dI nL n0 z0) Kr Kc) : W p l e R s m args below meth c H locs cells slots Q (F0 m pc ls (st.map (am_cv b0 b))) := by
  subst hE
  obtain ⟨hd0, hok⟩ := am_and hok
  have hd0 := of_decide_eq_true hd0
  obtain ⟨hx, hb, hml, hown, hts, hK, hmn, hb0, hsc⟩ := hc
  obtain ⟨hP, hS, hL⟩ := hrep
  obtain ⟨hl, hf⟩ := am_and hok
  obtain ⟨e9, hd⟩ := am_dec hd0 hl
  subst e9
  split at hf
  next q hcl =>
    have hw := am_hts hts (of_decide_eq_true hf) rfl
    obtain ⟨g1, g2, g3, g4, g5, g6, g7⟩ := am_cls _ _ hcl
    obtain ⟨C, T, N⟩ := q
    dsimp only at hw g1 g2 g3 g4 g5 g6 g7
    have hk : am_cont p l e R s m args below meth c Q b0 b cI cB dC dI nL n0 z0 (_, L, .ref h.length :: st, h ++ [.inr (a, am_blank a)]) := hk
    have hroom2 := hk.1
    simp only [List.length_append, List.length_cons, List.length_nil, am_szs_push, am_sz, g7] at hroom2
    refine am_W_size hb0 hcells hP hS (fun hZ => ?_)
    have hKn := hK.1 a _ hcl
    refine W.newcK hx hb hown hw (hts _ g4) (hts _ g5) rfl hd (by omega) (by omega) hKn.2.1 rfl fun H1 kC hkC e1 z1 o1 => ?_
    have hkeep : ∀ (k : Nat) (x : Nat × va_E), (am_cw b0 b cI cB 0 h)[k]? = some x → H1[x.1]? = H[x.1]? := fun k x hx => o1 x.1 ((hP k x hx).lt)
    have hb9 := u_born (o := H.size) (H := H1) (am_ty a) hts g3 hKn hkC e1 g1
    have hP1 : va_P (dC, dI) vwCl (am_cw b0 b cI cB 0 (h ++ [.inr (a, am_blank a)])) H1 := by
      rw [am_cw_push]
      refine va_P.app (hP.kept hkeep) (fun k q hq => ?_)
      match k, hq with
      | 0, hq =>
        cases hq
        rw [Nat.zero_add, ← hZ]
        refine ⟨_, hcl, t_OB.to hb9 (fun j hj => ?_)⟩
        show defaultValue (am_ty a j) = vp_V ((am_blank a).map (am_cv b0 b)) j
        rw [g6 j hj]
        exact am_blank_map a j
      | k + 1, hq => simp at hq
    have hS1 : va_S (fun q => b0 ≤ q) s.heap H1 locs := ⟨by rw [z1]; exact Nat.le_succ_of_le hS.1, fun q h1 h2 => (o1 q (Nat.lt_of_lt_of_le h1 hS.1)).trans (hS.2.1 q h1 h2), hS.2.2⟩
    have := hk.2 H1 locs ls (cells + 1) (slots + N) ⟨hP1, hS1, hL⟩ (by simp; omega) (by rw [am_szs_push]; simp only [am_sz, g7]; omega)
    rw [hZ]
    exact this
  next => cases hf
set_option maxHeartbeats 1000000 in
theorem am_s_newa {E : am_I} (hc : am_ctx p s m args meth c b0 b cI cB dC dI cc own mnm nL n0 scr) (hroom : 1 ≤ R.frames ∧ 100 ≤ R.locals) (hrep : am_rep b0 b cI cB dC dI s nL H locs ls L h) (hcells : cells + n0 = h.length) (hslots : slots + z0 = am_szs h) {ty : ArrayType} {nx tg a b' w : Nat} {v : Int32} {lv : Int64} {sw : List (Int32 × Nat)} (hE : E = (.newarray ty, nx, tg, a, b', w, v, lv, sw)) (hok : am_ok1 mt own mnm cc nL ret pc E = true)
    (hk : am_K (am_step scr E L st h) (am_cont p l e R s m args below meth c Q b0 b cI cB dC dI nL n0 z0) Kr Kc) : W p l e R s m args below meth c H locs cells slots Q (F0 m pc ls (st.map (am_cv b0 b))) := by
  subst hE
  obtain ⟨hd0, hok⟩ := am_and hok
  have hd0 := of_decide_eq_true hd0
  obtain ⟨hx, hb, hml, hown, hts, hK, hmn, hb0, hsc⟩ := hc
  obtain ⟨hP, hS, hL⟩ := hrep
  obtain ⟨e9, hd⟩ := am_dec hd0 hok
  subst e9
  obtain ⟨n, r, rfl, hk⟩ := am_i1_inv hk
  cases ty with
  | int =>
    have hk : (n = nI b' ∧ b' ≤ 1000) ∧ am_cont p l e R s m args below meth c Q b0 b cI cB dC dI nL n0 z0 (_, L, .ref h.length :: r, h ++ [.inl (false, b', fun _ => 0)]) := hk
    obtain ⟨⟨e8, hn⟩, hk9⟩ := hk
    subst e8
    have hroom2 := hk9.1
    simp only [List.length_append, List.length_cons, List.length_nil, am_szs_push, am_sz] at hroom2
    refine am_W_size hb0 hcells hP hS (fun hZ => ?_)
    refine va_newaK hx hb (am_hts hts (i := 118) (by decide +kernel) rfl) rfl hd rfl (nI_pos (by omega)) (nI_clamp (by omega)) (Nat.le_trans (Nat.mul_le_mul hn (show componentBytes (newarray.typeOf .int) ≤ 8 by decide)) (by decide)) (by omega) (by omega) rfl fun H1 cA e1 z1 o1 hAr hNm => ?_
    have hkeep : ∀ (k : Nat) (x : Nat × va_E), (am_cw b0 b cI cB 0 h)[k]? = some x → H1[x.1]? = H[x.1]? := fun k x hx => o1 x.1 ((hP k x hx).lt)
    have hcA : cA = cI := by
      have h9 : s.vm.findClass _ = some cI := (hK.2 0 _ rfl).2
      exact Option.some.inj (hNm.symm.trans h9)
    have hP1 : va_P (dC, dI) vwCl (am_cw b0 b cI cB 0 (h ++ [.inl (false, b', fun _ => 0)])) H1 := by
      rw [am_cw_push]
      refine va_P.app (hP.kept hkeep) (fun k q hq => ?_)
      match k, hq with
      | 0, hq =>
        cases hq
        rw [Nat.zero_add, ← hZ]
        subst hcA
        exact e1
      | k + 1, hq => simp at hq
    have hS1 : va_S (fun q => b0 ≤ q) s.heap H1 locs := ⟨by rw [z1]; exact Nat.le_succ_of_le hS.1, fun q h1 h2 => (o1 q (Nat.lt_of_lt_of_le h1 hS.1)).trans (hS.2.1 q h1 h2), hS.2.2⟩
    have := hk9.2 H1 locs ls (cells + 1) (slots + b') ⟨hP1, hS1, hL⟩ (by simp; omega) (by rw [am_szs_push]; simp only [am_sz]; omega)
    rw [hZ]
    exact this
  | boolean =>
    have hk : (n = nI b' ∧ b' ≤ 1000) ∧ am_cont p l e R s m args below meth c Q b0 b cI cB dC dI nL n0 z0 (_, L, .ref h.length :: r, h ++ [.inl (true, b', fun _ => 0)]) := hk
    obtain ⟨⟨e8, hn⟩, hk9⟩ := hk
    subst e8
    have hroom2 := hk9.1
    simp only [List.length_append, List.length_cons, List.length_nil, am_szs_push, am_sz] at hroom2
    refine am_W_size hb0 hcells hP hS (fun hZ => ?_)
    refine va_newaK hx hb (am_hts hts (i := 957) (by decide +kernel) rfl) rfl hd rfl (nI_pos (by omega)) (nI_clamp (by omega)) (Nat.le_trans (Nat.mul_le_mul hn (show componentBytes (newarray.typeOf .boolean) ≤ 8 by decide)) (by decide)) (by omega) (by omega) rfl fun H1 cA e1 z1 o1 hAr hNm => ?_
    have hkeep : ∀ (k : Nat) (x : Nat × va_E), (am_cw b0 b cI cB 0 h)[k]? = some x → H1[x.1]? = H[x.1]? := fun k x hx => o1 x.1 ((hP k x hx).lt)
    have hcA : cA = cB := by
      have h9 : s.vm.findClass _ = some cB := (hK.2 1 _ rfl).2
      exact Option.some.inj (hNm.symm.trans h9)
    have hP1 : va_P (dC, dI) vwCl (am_cw b0 b cI cB 0 (h ++ [.inl (true, b', fun _ => 0)])) H1 := by
      rw [am_cw_push]
      refine va_P.app (hP.kept hkeep) (fun k q hq => ?_)
      match k, hq with
      | 0, hq =>
        cases hq
        rw [Nat.zero_add, ← hZ]
        subst hcA
        exact e1
      | k + 1, hq => simp at hq
    have hS1 : va_S (fun q => b0 ≤ q) s.heap H1 locs := ⟨by rw [z1]; exact Nat.le_succ_of_le hS.1, fun q h1 h2 => (o1 q (Nat.lt_of_lt_of_le h1 hS.1)).trans (hS.2.1 q h1 h2), hS.2.2⟩
    have := hk9.2 H1 locs ls (cells + 1) (slots + b') ⟨hP1, hS1, hL⟩ (by simp; omega) (by rw [am_szs_push]; simp only [am_sz]; omega)
    rw [hZ]
    exact this
  | _ => exact hk.elim
end
end
section
/-! calls, answers, runs: what my machine does, the JVM does -/
def am_up (h h' : am_H) : Prop := h.length ≤ h'.length ∧ am_szs h ≤ am_szs h'
def am_mo (h : am_H) (o : am_R) : Prop := match o with
  | .inl f => am_up h f.2.2.2
  | .inr (.inl (_, f, g)) => am_up h f.2.2.2 ∧ am_up h g.2.2.2
  | .inr (.inr (.inl (_, f))) => am_up h f.2.2.2
  | .inr (.inr (.inr (.inl (_, _)))) => True
  | .inr (.inr (.inr (.inr (.inl (_, _, _))))) => True
  | .inr (.inr (.inr (.inr (.inr _)))) => True
theorem am_up_rf (h : am_H) : am_up h h := ⟨Nat.le_refl _, Nat.le_refl _⟩
theorem am_up_tr {h h1 h2 : am_H} (a : am_up h h1) (b : am_up h1 h2) : am_up h h2 := ⟨Nat.le_trans a.1 b.1, Nat.le_trans a.2 b.2⟩
theorem am_up_push (h : am_H) (e : am_C) : am_up h (h ++ [e]) := ⟨by simp, by rw [am_szs_push]; omega⟩
theorem am_up_set {h : am_H} {q : Nat} {e e0 : am_C} (hq : h[q]? = some e0) (hz : am_sz e = am_sz e0) : am_up h (h.set q e) := ⟨by simp, Nat.le_of_eq (am_szs_set hz h q hq).symm⟩
section
variable {h : am_H}
theorem am_mo_no : am_mo h am_no := trivial
theorem am_mo_go {nx : Nat} {L : am_L} {st : List Value} : am_mo h (am_go nx L st h) := am_up_rf h
theorem am_mo_put {x : Option am_L} {nx : Nat} {st : List Value} : am_mo h (am_put x nx st h) := by
  cases x
  · trivial
  · exact am_up_rf h
theorem am_mo_ck {cd : Prop} {nx : Nat} {L : am_L} {st : List Value} : am_mo h (am_ck cd nx L st h) := am_up_rf h
theorem am_mo_rt {cd : Prop} {v : Option Value} : am_mo h (am_rt cd v) := trivial
theorem am_mo_cl {j : Nat} {as : List Value} {nx : Nat} {L : am_L} {st : List Value} : am_mo h (am_cl j as nx L st h) := trivial
theorem am_mo_icmp {cd : ClassFile.Cond} {x y : Int32} {a b : Nat} {L : am_L} {st : List Value} : am_mo h (am_icmp cd x y (a, L, st, h) (b, L, st, h)) := by
  cases cd <;> exact ⟨am_up_rf h, am_up_rf h⟩
theorem am_mo_if {cd : ClassFile.Cond} {x : Int32} {a b : Nat} {L : am_L} {st : List Value} : am_mo h (am_if cd x (a, L, st, h) (b, L, st, h)) := by
  cases cd <;> exact ⟨am_up_rf h, am_up_rf h⟩
theorem am_mo_i1 {st : List Value} {f : Int32 → List Value → am_R} (hf : ∀ x r, am_mo h (f x r)) : am_mo h (am_i1 st f) := by
  unfold am_i1
  split <;> first | exact hf _ _ | exact am_mo_no
theorem am_mo_i2 {st : List Value} {f : Int32 → Int32 → List Value → am_R} (hf : ∀ x y r, am_mo h (f x y r)) : am_mo h (am_i2 st f) := by
  unfold am_i2
  split <;> first | exact hf _ _ _ | exact am_mo_no
theorem am_mo_j1 {st : List Value} {f : Int64 → List Value → am_R} (hf : ∀ x r, am_mo h (f x r)) : am_mo h (am_j1 st f) := by
  unfold am_j1
  split <;> first | exact hf _ _ | exact am_mo_no
theorem am_mo_j2 {st : List Value} {f : Int64 → Int64 → List Value → am_R} (hf : ∀ x y r, am_mo h (f x y r)) : am_mo h (am_j2 st f) := by
  unfold am_j2
  split <;> first | exact hf _ _ _ | exact am_mo_no
theorem am_mo_r1 {st : List Value} {f : Nat → List Value → am_R} (hf : ∀ x r, am_mo h (f x r)) : am_mo h (am_r1 st f) := by
  unfold am_r1
  split <;> first | exact hf _ _ | exact am_mo_no
theorem am_mo_v1 {st : List Value} {f : Value → List Value → am_R} (hf : ∀ x r, am_mo h (f x r)) : am_mo h (am_v1 st f) := by
  unfold am_v1
  split <;> first | exact hf _ _ | exact am_mo_no
theorem am_mo_lo {L : am_L} {a : Nat} {f : Value → am_R} (hf : ∀ x, am_mo h (f x)) : am_mo h (am_lo L a f) := by
  unfold am_lo
  split <;> first | exact hf _ | exact am_mo_no
theorem am_mo_vi {v : Value} {f : Int32 → am_R} (hf : ∀ x, am_mo h (f x)) : am_mo h (am_vi v f) := by
  unfold am_vi
  split <;> first | exact hf _ | exact am_mo_no
theorem am_mo_vj {v : Value} {f : Int64 → am_R} (hf : ∀ x, am_mo h (f x)) : am_mo h (am_vj v f) := by
  unfold am_vj
  split <;> first | exact hf _ | exact am_mo_no
theorem am_mo_vr {v : Value} {f : Nat → am_R} (hf : ∀ x, am_mo h (f x)) : am_mo h (am_vr v f) := by
  unfold am_vr
  split <;> first | exact hf _ | exact am_mo_no
theorem am_mo_va {v : Value} {f : Value → am_R} (hf : ∀ x, am_mo h (f x)) : am_mo h (am_va v f) := by
  unfold am_va
  split <;> first | exact hf _ | exact am_mo_no
theorem am_mo_sc {v : Value} {scr : Option (Nat × (Nat → Int32))} {f : Nat → (Nat → Int32) → am_R} (hf : ∀ n g, am_mo h (f n g)) : am_mo h (am_sc v scr f) := by
  unfold am_sc
  split <;> first | exact hf _ _ | exact am_mo_no
theorem am_mo_pp {n : Nat} {st : List Value} {f : List Value → List Value → am_R} (hf : ∀ as r, am_mo h (f as r)) : am_mo h (am_pp n st f) := by
  unfold am_pp
  split <;> first | exact hf _ _ | exact am_mo_no
theorem am_mo_fl {fs : List Value} {k : Nat} {f : Value → am_R} (hf : ∀ x, am_mo h (f x)) : am_mo h (am_fl fs k f) := by
  unfold am_fl
  split <;> first | exact hf _ | exact am_mo_no
theorem am_mo_nil {st : List Value} {x : am_R} (hf : am_mo h x) : am_mo h (am_nil st x) := by
  unfold am_nil
  split <;> first | exact hf | exact am_mo_no
theorem am_mo_bb {z : Bool} {x : am_R} (hf : am_mo h x) : am_mo h (am_bb z x) := by
  unfold am_bb
  split <;> first | exact hf | exact am_mo_no
theorem am_mo_ob {q : Nat} {f : Nat → List Value → am_R} (hf : ∀ ci fs, h[q]? = some (.inr (ci, fs)) → am_mo h (f ci fs)) : am_mo h (am_ob h q f) := by
  unfold am_ob
  split
  next hq => exact hf _ _ hq
  next => exact am_mo_no
theorem am_mo_ar {z : Bool} {q : Nat} {f : Nat → (Nat → Int32) → am_R} (hf : ∀ n g, h[q]? = some (.inl (z, n, g)) → am_mo h (f n g)) : am_mo h (am_ar z h q f) := by
  unfold am_ar
  split
  next hq =>
    split
    · exact hf _ _ hq
    · exact hf _ _ hq
    · exact am_mo_no
  next => exact am_mo_no
theorem am_mo_pf {tg : Nat} {x : Value} {nx : Nat} {L : am_L} {r : List Value} {q ci : Nat} {fs : List Value} {b : Nat} (hq : h[q]? = some (.inr (ci, fs))) : am_mo h (am_pf tg x nx L r h q ci fs b) := by
  unfold am_pf
  split
  · exact am_mo_vi (fun y => am_up_set hq (by simp [am_sz]))
  · exact am_mo_vi (fun y => am_up_set hq (by simp [am_sz]))
  · exact am_mo_vr (fun y => am_up_set hq (by simp [am_sz]))
theorem am_mo_il {scr : Option (Nat × (Nat → Int32))} {i : Int32} {v : Value} {nx : Nat} {L : am_L} {r : List Value} : am_mo h (am_il scr i v nx L r h) := by
  unfold am_il
  split
  · exact am_mo_ar (fun n g _ => am_mo_ck)
  · exact am_mo_sc (fun n g => am_mo_ck)
theorem am_mo_na {ty : ArrayType} {n : Int32} {b nx : Nat} {L : am_L} {r : List Value} : am_mo h (am_na ty n b nx L r h) := by
  unfold am_na
  split
  · exact am_up_push h _
  · exact am_up_push h _
  · exact am_mo_no
theorem am_mo_mst {a b nx : Nat} {L : am_L} {st : List Value} : am_mo h (am_mst a b nx L st h) := by
  unfold am_mst
  split
  · exact am_mo_i2 (fun _ _ _ => am_mo_bb am_mo_go)
  · split
    · exact am_mo_i2 (fun _ _ _ => am_mo_bb am_mo_go)
    · exact am_mo_pp (fun _ _ => am_mo_bb am_mo_cl)
theorem am_mo_step (scr : Option (Nat × (Nat → Int32))) (E : am_I) (L : am_L) (st : List Value) : am_mo h (am_step scr E L st h) := by
  obtain ⟨ins, nx, tg, a, b, w, v, lv, sw⟩ := E
  cases ins with
  | iconst => exact am_mo_go
  | bipush => exact am_mo_go
  | sipush => exact am_mo_go
  | ldc => exact am_mo_go
  | ldc_w => exact am_mo_go
  | lconst => exact am_mo_go
  | ldc2_w => exact am_mo_go
  | goto => exact am_mo_go
  | iload => exact am_mo_lo (fun _ => am_mo_vi (fun _ => am_mo_go))
  | iload_n => exact am_mo_lo (fun _ => am_mo_vi (fun _ => am_mo_go))
  | lload => exact am_mo_lo (fun _ => am_mo_vj (fun _ => am_mo_go))
  | lload_n => exact am_mo_lo (fun _ => am_mo_vj (fun _ => am_mo_go))
  | aload => exact am_mo_lo (fun _ => am_mo_va (fun _ => am_mo_go))
  | aload_n => exact am_mo_lo (fun _ => am_mo_va (fun _ => am_mo_go))
  | istore => exact am_mo_i1 (fun _ _ => am_mo_put)
  | istore_n => exact am_mo_i1 (fun _ _ => am_mo_put)
  | astore => exact am_mo_r1 (fun _ _ => am_mo_put)
  | astore_n => exact am_mo_r1 (fun _ _ => am_mo_put)
  | lstore => exact am_mo_j1 (fun _ _ => am_mo_put)
  | lstore_n => exact am_mo_j1 (fun _ _ => am_mo_put)
  | iinc => exact am_mo_lo (fun _ => am_mo_vi (fun _ => am_mo_put))
  | iadd => exact am_mo_i2 (fun _ _ _ => am_mo_go)
  | isub => exact am_mo_i2 (fun _ _ _ => am_mo_go)
  | imul => exact am_mo_i2 (fun _ _ _ => am_mo_go)
  | iand => exact am_mo_i2 (fun _ _ _ => am_mo_go)
  | ior => exact am_mo_i2 (fun _ _ _ => am_mo_go)
  | ixor => exact am_mo_i2 (fun _ _ _ => am_mo_go)
  | ishl => exact am_mo_i2 (fun _ _ _ => am_mo_go)
  | ishr => exact am_mo_i2 (fun _ _ _ => am_mo_go)
  | iushr => exact am_mo_i2 (fun _ _ _ => am_mo_go)
  | idiv => exact am_mo_i2 (fun _ _ _ => am_mo_ck)
  | irem => exact am_mo_i2 (fun _ _ _ => am_mo_ck)
  | ladd => exact am_mo_j2 (fun _ _ _ => am_mo_go)
  | lmul => exact am_mo_j2 (fun _ _ _ => am_mo_go)
  | lcmp => exact am_mo_j2 (fun _ _ _ => am_mo_go)
  | lrem => exact am_mo_j2 (fun _ _ _ => am_mo_ck)
  | ineg => exact am_mo_i1 (fun _ _ => am_mo_go)
  | i2l => exact am_mo_i1 (fun _ _ => am_mo_go)
  | i2b => exact am_mo_i1 (fun _ _ => am_mo_go)
  | i2s => exact am_mo_i1 (fun _ _ => am_mo_go)
  | tableswitch => exact am_mo_i1 (fun _ _ => am_mo_go)
  | lookupswitch => exact am_mo_i1 (fun _ _ => am_mo_go)
  | l2i => exact am_mo_j1 (fun _ _ => am_mo_go)
  | dup => exact am_mo_v1 (fun _ _ => am_mo_bb am_mo_go)
  | pop => exact am_mo_v1 (fun _ _ => am_mo_bb am_mo_go)
  | dup2 => exact am_mo_v1 (fun _ _ => am_mo_v1 (fun _ _ => am_mo_bb (am_mo_bb am_mo_go)))
  | if_icmp => exact am_mo_i2 (fun _ _ _ => am_mo_icmp)
  | ifCond => exact am_mo_i1 (fun _ _ => am_mo_if)
  | getfield => exact am_mo_r1 (fun _ _ => am_mo_ob (fun _ _ _ => am_mo_bb (am_mo_fl (fun _ => am_mo_go))))
  | putfield => exact am_mo_v1 (fun _ _ => am_mo_r1 (fun _ _ => am_mo_ob (fun _ _ hq => am_mo_bb (am_mo_bb (am_mo_pf hq)))))
  | iaload => exact am_mo_i1 (fun _ _ => am_mo_v1 (fun _ _ => am_mo_il))
  | baload => exact am_mo_i1 (fun _ _ => am_mo_r1 (fun _ _ => am_mo_ar (fun _ _ _ => am_mo_ck)))
  | iastore => exact am_mo_i2 (fun _ _ _ => am_mo_r1 (fun _ _ => am_mo_ar (fun _ _ hq => am_up_set hq rfl)))
  | bastore => exact am_mo_i2 (fun _ _ _ => am_mo_r1 (fun _ _ => am_mo_ar (fun _ _ hq => am_up_set hq rfl)))
  | arraylength => exact am_mo_v1 (fun _ _ => am_mo_sc (fun _ _ => am_mo_go))
  | new => exact am_up_push h _
  | newarray => exact am_mo_i1 (fun _ _ => am_mo_na)
  | invokevirtual => exact am_mo_pp (fun _ _ => am_mo_r1 (fun _ _ => am_mo_ob (fun _ _ _ => am_mo_bb (am_mo_bb am_mo_cl))))
  | ireturn => exact am_mo_i1 (fun _ _ => am_mo_nil (by split <;> exact am_mo_rt))
  | areturn => exact am_mo_r1 (fun _ _ => am_mo_nil am_mo_rt)
  | return_ => exact am_mo_nil am_mo_rt
  | invokespecial i =>
    show am_mo h (match tg with
      | 2 => am_r1 st (fun _ r => am_bb (Nat.ble (am_cats r) 8) (am_go nx L r h))
      | _ => am_pp b st (fun as r => am_r1 r (fun q r => am_bb (Nat.ble (am_cats r) 8) (am_cl a (.ref q :: as) nx L r h))))
    split
    · exact am_mo_r1 (fun _ _ => am_mo_bb am_mo_go)
    · exact am_mo_pp (fun _ _ => am_mo_r1 (fun _ _ => am_mo_bb am_mo_cl))
  | invokestatic i =>
    show am_mo h (match tg with
      | 2 => am_i2 st (fun dp n r => am_r1 r (fun q1 r => am_i1 r (fun sp r => am_r1 r (fun q0 r => am_bb (Nat.ble (am_cats r) 8) (am_ar false h q0 (fun n0 f => am_ar false h q1 (fun n1 g => am_ck (¬ sp < 0 ∧ ¬ dp < 0 ∧ ¬ n < 0 ∧ sp.toNatClampNeg + n.toNatClampNeg ≤ n0 ∧ dp.toNatClampNeg + n.toNatClampNeg ≤ n1) nx L r (h.set q1 (.inl (false, n1, va_cpy f g sp.toNatClampNeg dp.toNatClampNeg n.toNatClampNeg))))))))))
      | _ => am_mst a b nx L st h)
    split
    · exact am_mo_i2 (fun _ _ _ => am_mo_r1 (fun _ _ => am_mo_i1 (fun _ _ => am_mo_r1 (fun _ _ => am_mo_bb (am_mo_ar (fun _ _ _ => am_mo_ar (fun _ _ hq => am_up_set hq rfl)))))))
    · exact am_mo_mst
  | _ => exact am_mo_no
end
theorem am_run_up {scr : Option (Nat × (Nat → Int32))} {C : Nat → List Value → am_H → Option Value → am_H → Prop} (hC : ∀ j as h w h1, C j as h w h1 → am_up h h1) {t : am_T} {v : Option Value} {h' : am_H} : ∀ (n : Nat) (f : am_F), am_run scr C t n f v h' → am_up f.2.2.2 h'
  | 0, f, hr => by cases hr
  | n + 1, f, hr => by
    unfold am_run at hr
    split at hr
    next => cases hr
    next E hE =>
      have hm := am_mo_step (h := f.2.2.2) scr E f.2.1 f.2.2.1
      revert hr hm
      generalize am_step scr E f.2.1 f.2.2.1 f.2.2.2 = o
      intro hr hm
      match o, hr, hm with
      | .inl g, hr, hm => exact am_up_tr hm (am_run_up hC n g hr)
      | .inr (.inl (cd, g, k)), hr, hm =>
        by_cases hc : cd
        · exact am_up_tr hm.1 (am_run_up hC n g (hr.1 hc))
        · exact am_up_tr hm.2 (am_run_up hC n k (hr.2 hc))
      | .inr (.inr (.inl (cd, g))), hr, hm => exact am_up_tr hm (am_run_up hC n g hr.2)
      | .inr (.inr (.inr (.inl (cd, w)))), hr, hm => rw [hr.2.2]; exact am_up_rf _
      | .inr (.inr (.inr (.inr (.inl (j, as, g))))), hr, hm =>
        obtain ⟨w, h1, hc, hr⟩ := hr
        exact am_up_tr (hC _ _ _ _ _ hc) (am_run_up hC n _ hr)
/-- what the methods do, by the depth of their calls -/
def am_ent (nL : Nat) (as : List Value) : am_L := let x := as.flatMap (fun v => if v.category = 2 then [some v, none] else [some v]); x ++ List.replicate (nL - x.length) none
def am_ev : Nat → Nat → List Value → am_H → Option Value → am_H → Prop
  | 0, _, _, _, _, _ => False
  | d + 1, j, as, h, v, h' => ∃ (M : am_M) (n : Nat), am_ms[j]? = some M ∧ (am_ent M.2.2.1 as).length = M.2.2.1 ∧ am_run none (am_ev d) M.2.2.2.2.2.2.2.2.2.2 n (0, am_ent M.2.2.1 as, [], h) v h'
theorem am_ev_up : ∀ (d j : Nat) (as : List Value) (h : am_H) (v : Option Value) (h' : am_H), am_ev d j as h v h' → am_up h h'
  | 0, _, _, _, _, _, hv => by cases hv
  | d + 1, j, as, h, v, h', hv => by
    obtain ⟨M, n, -, -, hr⟩ := hv
    exact am_run_up (am_ev_up d) n _ hr
end
section
/-! calls and answers -/
def am_Pc (b0 b : Nat) (cI cB : ClassId) (dC : Nat → ClassId) (dI : Nat → Nat → Nat) (as : List Value) (h : am_H) : Array Value → State → Prop := va_Pc (as.map (am_cv b0 b)) (fun U => U.heap.size = b0 + h.length ∧ va_P (dC, dI) vwCl (am_cw b0 b cI cB 0 h) U.heap ∧ va_K (dC, dI) vwCl [(cI, .int), (cB, .boolean)] U)
def am_Qc (b0 b : Nat) (cI cB : ClassId) (dC : Nat → ClassId) (dI : Nat → Nat → Nat) (w : Option Value) (h1 : am_H) : Array Value → State → Outcome → State → Prop := fun _ st oc t => oc = .returned (w.map (am_cv b0 b)) ∧ va_P (dC, dI) vwCl (am_cw b0 b cI cB 0 h1) t.heap ∧ va_F (fun q => b0 ≤ q) st t
def am_rm (d mc ms : Nat) : Room := { frames := d + 1, cells := mc, slots := ms, locals := 100 + 40 * d }
def am_wsM (M : am_M) : List Jvm.Cond := .code M.1 M.2.1 M.2.2.1 M.2.2.2.1 :: am_ws
def am_met (l : Launch) (b0 b : Nat) (cI cB : ClassId) (dC : Nat → ClassId) (dI : Nat → Nat → Nat) (d j : Nat) (as : List Value) (h : am_H) (w : Option Value) (h1 : am_H) : Prop :=
  am_up h h1 ∧ ∃ M : am_M, am_ms[j]? = some M ∧ Met l M.1 (am_wsM M) (am_rm d (h1.length - h.length) (am_szs h1 - am_szs h)) (am_Pc b0 b cI cB dC dI as h) (am_Qc b0 b cI cB dC dI w h1) (h1.length - h.length) (am_szs h1 - am_szs h) (fun q => b0 ≤ q)
theorem am_blind {b0 b : Nat} {cI cB : ClassId} {dC : Nat → ClassId} {dI : Nat → Nat → Nat} {as : List Value} {h : am_H} : FrameBlind (am_Pc b0 b cI cB dC dI as h) := fun a U g mk q => ⟨q.1, q.2.1, q.2.2.1, va_K.moved (u := U) (U := U.calling g mk a) (Vm.Alike.refl U.vm) q.2.2.2⟩
theorem am_hd_at {j : Nat} {M : am_M} (hM : am_ms[j]? = some M) : am_mt j = some (am_hd M) := by
  have hlt : j < (am_ms.map am_hd).length := by rw [List.length_map]; exact (List.getElem?_eq_some_iff.mp hM).1
  unfold am_mt
  rw [← am_ms_hs, List.getElem?_append_left hlt, List.getElem?_map, hM]
  rfl
theorem am_nonest {w : Nat} {own : String} {i : Nat} {y : MethodName} (h : lw_tbl[w]? = some (Jvm.Cond.methodLinkNest own i y "HoarseHill")) (hy : y.cls = "java/lang/Math") : False := by
  have h1 : lw_tbl.all (fun w => match w with
    | .methodLinkNest _ _ y _ => !(y.cls == "java/lang/Math")
    | _ => true) = true := by decide +kernel
  have h2 := List.all_eq_true.mp h1 _ (List.mem_of_getElem? h)
  simp [hy] at h2
section
variable {p : Program} {l : Launch} {e : Env} {R : Room} {s : State} {m : MethodId} {args : Array Value} {below : List Frame} {meth : Method} {c : Code} {Q : State → Prop}
variable {b0 b : Nat} {cI cB : ClassId} {dC : Nat → ClassId} {dI : Nat → Nat → Nat} {cc : ByteArray} {own mnm : String} {nL n0 z0 : Nat} {ret : Option FieldType} {scr : Option (Nat × (Nat → Int32))}
variable {H : Heap} {locs : List Loc} {ls : Array Slot} {cells slots pc d : Nat} {L : am_L} {st : List Value} {h : am_H} {Kr : Prop → Option Value → Prop}
theorem am_callw {w : Option Value} {h1 : am_H} {mc ms : Nat} {a : Array Value} {st0 r : List Value} (hr : va_Run p l e R s m args below meth c H locs cells slots mc ms (F0 m pc ls st0) (r.map (am_cv b0 b)) (am_Qc b0 b cI cB dC dI w h1 a) (fun q => b0 ≤ q)) (hS : va_S (fun q => b0 ≤ q) s.heap H locs)
    (kk : ∀ (H1 : Heap) (locs1 : List Loc), va_P (dC, dI) vwCl (am_cw b0 b cI cB 0 h1) H1 → va_S (fun q => b0 ≤ q) s.heap H1 locs1 → W p l e R s m args below meth c H1 locs1 (cells + mc) (slots + ms) Q (F0 m (pc + 3) ls ((w.toList ++ r).map (am_cv b0 b)))) : W p l e R s m args below meth c H locs cells slots Q (F0 m pc ls st0) := by
  intro T hT X
  obtain ⟨v, st₀, t, T', L, h0, X', hL, e1, e2, ⟨hv, hp, hz, hk⟩, st⟩ := hr T hT X
  cases hv
  rw [h0] at hz hk
  obtain ⟨t2, a1, b1⟩ := kk T'.heap (locs ++ L) (by rw [e1]; exact hp) ⟨Nat.le_trans hS.1 (by rw [e1]; exact hz), fun q h1 h2 => by rw [e1, hk q (Nat.lt_of_lt_of_le h1 hS.1) h2]; exact hS.2.1 q h1 h2, fun q hq => by
      rcases List.mem_append.mp hq with h | h
      · exact hS.2.2 q h
      · exact hL q h⟩ T' rfl X'
  refine ⟨t2, st t2 ?_, b1⟩
  have e9 : (w.map (am_cv b0 b)).toList ++ r.map (am_cv b0 b) = (w.toList ++ r).map (am_cv b0 b) := by cases w <;> simp
  show Steps p.tables e below (T'.setTop (F0 m (pc + 3) ls ((w.map (am_cv b0 b)).toList ++ r.map (am_cv b0 b)))) t2
  rw [e9]
  exact a1
/-- what a call needs of the tables, but for its own link -/
theorem am_callB {M : am_M} {j mc ms n : Nat} (hts : ∀ w ∈ am_ws, w.before args s = true) (hR : d + 2 ≤ R.frames ∧ 139 + 40 * d ≤ R.locals) (hM : am_ms[j]? = some M) (hn : M.2.2.2.2.2.2.2.2.2.1 = n) :
    ((am_rm d mc ms).cells = mc ∧ (am_rm d mc ms).slots = ms ∧ (am_rm d mc ms).frames + 1 ≤ R.frames ∧ 8 + (M.2.2.1 + 11) + (am_rm d mc ms).locals ≤ R.locals ∧ (∀ w ∈ am_wsM M, ∀ (a' : Array Value) (U : State), s.WarmedH U.vm → w.before a' U = true) ∧ Jvm.Cond.code M.1 M.2.1 M.2.2.1 M.2.2.2.1 ∈ am_wsM M) ∧
    (Jvm.Cond.code M.1 M.2.1 M.2.2.1 M.2.2.2.1).before args s = true ∧ (Jvm.Cond.initialized M.1.cls).before args s = true ∧ (M.1.cls ≠ "java/lang/invoke/MethodHandle" ∧ M.1.cls ≠ "java/lang/invoke/VarHandle") ∧ (∀ sig, parseMethodDescriptor M.1.desc = some sig → n = sig.parameters.length) ∧
    (M.2.2.2.2.1 = 0 → (Jvm.Cond.static M.1).before args s = true) ∧ (M.2.2.2.2.1 = 1 → (Jvm.Cond.instanceMethod M.1).before args s = true ∧ (Jvm.Cond.selects M.1.cls M.1 M.1).before args s = true) ∧ (M.2.2.2.2.1 = 2 → (Jvm.Cond.instanceMethod M.1).before args s = true ∧ M.1.name = "<init>" ∧ M.2.2.2.1 = none) := by
  have hOk := (am_ms_ok M (List.mem_of_getElem? hM)).1
  obtain ⟨y, c1, nL1, ret1, kd, w1, w2, w3, w4, n1, t1⟩ := M
  dsimp only at hn ⊢
  subst hn
  simp only [am_okH, Bool.and_eq_true, decide_eq_true_eq] at hOk
  obtain ⟨⟨⟨⟨⟨⟨⟨h1, h2⟩, h3⟩, h4⟩, h5⟩, h6⟩, h7⟩, h8⟩ := hOk
  have hc := am_hts hts h1 rfl
  have hn := Nat.le_of_ble_eq_true h8
  refine ⟨⟨rfl, rfl, hR.1, ?_, fun w hw => ?_, List.mem_cons_self⟩, hc, am_hts hts h2 rfl, ⟨h5, h6⟩, fun sig hs => ?_, fun hk => ?_, fun hk => ?_, fun hk => ?_⟩
  · show 8 + (nL1 + 11) + (100 + 40 * d) ≤ R.locals
    omega
  · rcases List.mem_cons.mp hw with rfl | hw
    · exact am_pay hts _ (am_in h1 rfl)
    · exact am_pay hts w hw
  · rw [hs] at h7
    exact (Option.some.inj h7).symm
  · subst hk
    exact am_hts hts (of_decide_eq_true h3) rfl
  · subst hk
    obtain ⟨g1, g2⟩ := am_and h3
    exact ⟨am_hts hts (of_decide_eq_true g1) rfl, am_hts hts (of_decide_eq_true g2) rfl⟩
  · subst hk
    obtain ⟨g1, g3⟩ := am_and h3
    obtain ⟨g1, g2⟩ := am_and g1
    exact ⟨am_hts hts (of_decide_eq_true g1) rfl, of_decide_eq_true g2, of_decide_eq_true g3⟩
set_option maxHeartbeats 1000000 in
theorem am_s_vir {E : am_I} (hc : am_ctx p s m args meth c b0 b cI cB dC dI cc own mnm nL n0 scr) (hR : d + 2 ≤ R.frames ∧ 139 + 40 * d ≤ R.locals) (hrep : am_rep b0 b cI cB dC dI s nL H locs ls L h) (hcells : cells + n0 = h.length) (hslots : slots + z0 = am_szs h) (hcap : h.length ≤ R.cells + n0 ∧ am_szs h ≤ R.slots + z0) {i nx tg a b' w : Nat} {v : Int32} {lv : Int64} {sw : List (Int32 × Nat)} (hE : E = (.invokevirtual i, nx, tg, a, b', w, v, lv, sw)) (hok : am_ok1 am_mt own mnm cc nL ret pc E = true)
    (hk : am_K (am_step scr E L st h) (am_cont p l e R s m args below meth c Q b0 b cI cB dC dI nL n0 z0) Kr (fun j as f => ∃ (w : Option Value) (h1 : am_H), am_met l b0 b cI cB dC dI d j as h w h1 ∧ am_cont p l e R s m args below meth c Q b0 b cI cB dC dI nL n0 z0 (f.1, f.2.1, w.toList ++ f.2.2.1, h1))) : W p l e R s m args below meth c H locs cells slots Q (F0 m pc ls (st.map (am_cv b0 b))) := by
  subst hE
  obtain ⟨hd0, hok⟩ := am_and hok
  have hd0 := of_decide_eq_true hd0
  obtain ⟨hx, hb, hml, hown, hts, hK, hmn, hb0, hsc⟩ := hc
  obtain ⟨hP, hS, hL⟩ := hrep
  obtain ⟨hok, hrcv⟩ := am_and hok
  obtain ⟨hl, hcal⟩ := am_and hok
  obtain ⟨e9, hd⟩ := am_dec hd0 hl
  subst e9
  obtain ⟨as, r, hpop, hk⟩ := am_pp_inv hk
  obtain ⟨q, r, rfl, hk⟩ := am_r1_inv hk
  obtain ⟨ci, fs, hq, hk2⟩ := am_ob_inv hk
  obtain ⟨hci, hk3⟩ := am_bb_inv hk2
  cases am_beq hci
  obtain ⟨hcat, hk⟩ := am_bb_inv hk3
  have hk : ∃ (w : Option Value) (h1 : am_H), am_met l b0 b cI cB dC dI d a (.ref q :: as) h w h1 ∧ am_cont p l e R s m args below meth c Q b0 b cI cB dC dI nL n0 z0 (pc + 3, L, w.toList ++ r, h1) := hk
  obtain ⟨v1, h1, ⟨hup, M, hM, hMet⟩, hkc⟩ := hk
  obtain ⟨xs, x1, x2, rfl⟩ := am_pop_eq _ _ _ _ _ hpop
  rw [List.append_nil] at x2
  subst x2
  have hh := am_hd_at hM
  unfold am_call at hcal
  rw [hh] at hcal
  simp only [am_hd, Bool.and_eq_true] at hcal
  obtain ⟨⟨g1, g2⟩, g3⟩ := hcal
  have g1 := am_beq g1
  have g2 := am_beq g2
  obtain ⟨⟨k1, k2, k3, k4, k5, k6⟩, k7, k8, k9, k10, k11, k12, k13⟩ := am_callB (mc := h1.length - h.length) (ms := am_szs h1 - am_szs h) hts hR hM g1
  have g3 := am_hts hts (of_decide_eq_true g3) rfl
  unfold am_rcv at hrcv
  rw [hh] at hrcv
  split at hrcv
  next y0 _ _ qq he hcl =>
    cases he
    have hrcv : M.1.cls = qq.1 := of_decide_eq_true hrcv
    obtain ⟨k11, k11b⟩ := k12 g2
    refine am_W_size hb0 hcells hP hS (fun hZ => ?_)
    refine am_callw (r := r) (va_runV (C := qq.1) (b := b0 + q) (As := as.map (am_cv b0 b)) (rest := r.map (am_cv b0 b)) (n := b') ⟨hx, hb, hml, hown, hts⟩ hMet ⟨⟨k1, k2, k3, k4, k5, k6, k7, k8, k9, k10, g3⟩, k11, by rw [← hrcv]; exact k11b⟩ ⟨am_blind, va_recv hK hP hcl (am_cw_get hq), fun U hU hW => ⟨rfl, by rw [hU]; exact hZ, by rw [hU]; exact hP, va_K.moved hW.alike hK⟩⟩ rfl (by rw [List.length_map]; exact x1) hL.1 (by simp [am_cv]) (lv_room (by rw [am_cats_eq]; exact Nat.le_of_ble_eq_true hcat)) hd ⟨by have := hkc.1.1; have := hup.1; dsimp only at *; omega, by have := hkc.1.2; have := hup.2; dsimp only at *; omega⟩) hS (fun H1 locs1 hP1 hS1 => hkc.2 H1 locs1 ls _ _ ⟨hP1, hS1, hL⟩ (by have := hup.1; dsimp only; omega) (by have := hup.2; dsimp only; omega))
  next => cases hrcv
set_option maxHeartbeats 1000000 in
theorem am_s_spe {E : am_I} (hc : am_ctx p s m args meth c b0 b cI cB dC dI cc own mnm nL n0 scr) (hR : d + 2 ≤ R.frames ∧ 139 + 40 * d ≤ R.locals) (hrep : am_rep b0 b cI cB dC dI s nL H locs ls L h) (hcells : cells + n0 = h.length) (hslots : slots + z0 = am_szs h) (hcap : h.length ≤ R.cells + n0 ∧ am_szs h ≤ R.slots + z0) {i nx tg a b' w : Nat} {v : Int32} {lv : Int64} {sw : List (Int32 × Nat)} (hE : E = (.invokespecial i, nx, tg, a, b', w, v, lv, sw)) (hok : am_ok1 am_mt own mnm cc nL ret pc E = true)
    (hk : am_K (am_step scr E L st h) (am_cont p l e R s m args below meth c Q b0 b cI cB dC dI nL n0 z0) Kr (fun j as f => ∃ (w : Option Value) (h1 : am_H), am_met l b0 b cI cB dC dI d j as h w h1 ∧ am_cont p l e R s m args below meth c Q b0 b cI cB dC dI nL n0 z0 (f.1, f.2.1, w.toList ++ f.2.2.1, h1))) : W p l e R s m args below meth c H locs cells slots Q (F0 m pc ls (st.map (am_cv b0 b))) := by
  subst hE
  obtain ⟨hd0, hok⟩ := am_and hok
  have hd0 := of_decide_eq_true hd0
  obtain ⟨hx, hb, hml, hown, hts, hK, hmn, hb0, hsc⟩ := hc
  obtain ⟨hP, hS, hL⟩ := hrep
  obtain ⟨hl, hok2⟩ := am_and hok
  obtain ⟨e9, hd⟩ := am_dec hd0 hl
  subst e9
  match tg, hok2, hk with
  | 0, hcal, hk =>
    obtain ⟨as, r, hpop, hk⟩ := am_pp_inv hk
    obtain ⟨q, r, rfl, hk⟩ := am_r1_inv hk
    obtain ⟨hcat, hk⟩ := am_bb_inv hk
    have hk : ∃ (w : Option Value) (h1 : am_H), am_met l b0 b cI cB dC dI d a (.ref q :: as) h w h1 ∧ am_cont p l e R s m args below meth c Q b0 b cI cB dC dI nL n0 z0 (pc + 3, L, w.toList ++ r, h1) := hk
    obtain ⟨v1, h1, ⟨hup, M, hM, hMet⟩, hkc⟩ := hk
    obtain ⟨xs, x1, x2, rfl⟩ := am_pop_eq _ _ _ _ _ hpop
    rw [List.append_nil] at x2
    subst x2
    have hh := am_hd_at hM
    unfold am_call at hcal
    rw [hh] at hcal
    simp only [am_hd, Bool.and_eq_true] at hcal
    obtain ⟨⟨g1, g2⟩, g3⟩ := hcal
    have g1 := am_beq g1
    have g2 := am_beq g2
    obtain ⟨⟨k1, k2, k3, k4, k5, k6⟩, k7, k8, k9, k10, k11, k12, k13⟩ := am_callB (mc := h1.length - h.length) (ms := am_szs h1 - am_szs h) hts hR hM g1
    have g3 := am_hts hts (of_decide_eq_true g3) rfl
    obtain ⟨k11, k12, k13⟩ := k13 g2
    rw [k13] at k6 k7
    refine am_W_size hb0 hcells hP hS (fun hZ => ?_)
    exact am_callw (r := r) (va_runI (b := b0 + q) (As := as.map (am_cv b0 b)) (rest := r.map (am_cv b0 b)) (n := b') ⟨hx, hb, hml, hown, hts⟩ hMet ⟨⟨k1, k2, k3, k4, k5, k6, k7, k8, k9, k10, g3⟩, k12, k11⟩ ⟨am_blind, fun U hU hW => ⟨rfl, by rw [hU]; exact hZ, by rw [hU]; exact hP, va_K.moved hW.alike hK⟩⟩ rfl (by rw [List.length_map]; exact x1) hL.1 (by simp [am_cv]) (lv_room (by rw [am_cats_eq]; exact Nat.le_of_ble_eq_true hcat)) hd ⟨by have := hkc.1.1; have := hup.1; dsimp only at *; omega, by have := hkc.1.2; have := hup.2; dsimp only at *; omega⟩) hS (fun H1 locs1 hP1 hS1 => hkc.2 H1 locs1 ls _ _ ⟨hP1, hS1, hL⟩ (by have := hup.1; dsimp only; omega) (by have := hup.2; dsimp only; omega))
  | 1, hcal, hk =>
    obtain ⟨as, r, hpop, hk⟩ := am_pp_inv hk
    obtain ⟨q, r, rfl, hk⟩ := am_r1_inv hk
    obtain ⟨hcat, hk⟩ := am_bb_inv hk
    have hk : ∃ (w : Option Value) (h1 : am_H), am_met l b0 b cI cB dC dI d a (.ref q :: as) h w h1 ∧ am_cont p l e R s m args below meth c Q b0 b cI cB dC dI nL n0 z0 (pc + 3, L, w.toList ++ r, h1) := hk
    obtain ⟨v1, h1, ⟨hup, M, hM, hMet⟩, hkc⟩ := hk
    obtain ⟨xs, x1, x2, rfl⟩ := am_pop_eq _ _ _ _ _ hpop
    rw [List.append_nil] at x2
    subst x2
    have hh := am_hd_at hM
    unfold am_call at hcal
    rw [hh] at hcal
    simp only [am_hd, Bool.and_eq_true] at hcal
    obtain ⟨⟨g1, g2⟩, g3⟩ := hcal
    have g1 := am_beq g1
    have g2 := am_beq g2
    obtain ⟨⟨k1, k2, k3, k4, k5, k6⟩, k7, k8, k9, k10, k11, k12, k13⟩ := am_callB (mc := h1.length - h.length) (ms := am_szs h1 - am_szs h) hts hR hM g1
    have g3 := am_hts hts (of_decide_eq_true g3) rfl
    obtain ⟨k11, k12, k13⟩ := k13 g2
    rw [k13] at k6 k7
    refine am_W_size hb0 hcells hP hS (fun hZ => ?_)
    exact am_callw (r := r) (va_runIN (host := "HoarseHill") (b := b0 + q) (As := as.map (am_cv b0 b)) (rest := r.map (am_cv b0 b)) (n := b') ⟨hx, hb, hml, hown, hts⟩ hMet ⟨⟨⟨k1, k2, k3, k4, k5, k6⟩, k7, k8, k9, k10, g3⟩, k12, k11⟩ ⟨am_blind, fun U hU hW => ⟨rfl, by rw [hU]; exact hZ, by rw [hU]; exact hP, va_K.moved hW.alike hK⟩⟩ rfl (by rw [List.length_map]; exact x1) hL.1 (by simp [am_cv]) (lv_room (by rw [am_cats_eq]; exact Nat.le_of_ble_eq_true hcat)) hd ⟨by have := hkc.1.1; have := hup.1; dsimp only at *; omega, by have := hkc.1.2; have := hup.2; dsimp only at *; omega⟩) hS (fun H1 locs1 hP1 hS1 => hkc.2 H1 locs1 ls _ _ ⟨hP1, hS1, hL⟩ (by have := hup.1; dsimp only; omega) (by have := hup.2; dsimp only; omega))
  | 2, hcal, hk =>
    obtain ⟨q, r, rfl, hk⟩ := am_r1_inv hk
    obtain ⟨hcat, hk⟩ := am_bb_inv hk
    have hcat : am_cats r ≤ 8 := Nat.le_of_ble_eq_true hcat
    have hk : am_cont p l e R s m args below meth c Q b0 b cI cB dC dI nL n0 z0 (pc + 3, L, r, h) := hk
    have hce := am_cats_eq b0 b r
    refine W.objInit hx hb hown (am_hts hts (of_decide_eq_true hcal) rfl) (am_hts hts (i := 100) (by decide +kernel) rfl) (am_hts hts (i := 101) (by decide +kernel) rfl) rfl (hL.1.trans hml.symm) rfl hd (by omega) (by show 2 * 0 + _ + 12 ≤ R.locals; omega) ?_
    exact hk.2 H locs ls cells slots ⟨hP, hS, hL⟩ hcells hslots
  | t + 3, hcal, hk =>
    obtain ⟨as, r, hpop, hk⟩ := am_pp_inv hk
    obtain ⟨q, r, rfl, hk⟩ := am_r1_inv hk
    obtain ⟨hcat, hk⟩ := am_bb_inv hk
    have hk : ∃ (w : Option Value) (h1 : am_H), am_met l b0 b cI cB dC dI d a (.ref q :: as) h w h1 ∧ am_cont p l e R s m args below meth c Q b0 b cI cB dC dI nL n0 z0 (pc + 3, L, w.toList ++ r, h1) := hk
    obtain ⟨v1, h1, ⟨hup, M, hM, hMet⟩, hkc⟩ := hk
    obtain ⟨xs, x1, x2, rfl⟩ := am_pop_eq _ _ _ _ _ hpop
    rw [List.append_nil] at x2
    subst x2
    have hh := am_hd_at hM
    unfold am_call at hcal
    rw [hh] at hcal
    simp only [am_hd, Bool.and_eq_true] at hcal
    obtain ⟨⟨g1, g2⟩, g3⟩ := hcal
    have g1 := am_beq g1
    have g2 := am_beq g2
    obtain ⟨⟨k1, k2, k3, k4, k5, k6⟩, k7, k8, k9, k10, k11, k12, k13⟩ := am_callB (mc := h1.length - h.length) (ms := am_szs h1 - am_szs h) hts hR hM g1
    have g3 := am_hts hts (of_decide_eq_true g3) rfl
    obtain ⟨k11, k12, k13⟩ := k13 g2
    rw [k13] at k6 k7
    refine am_W_size hb0 hcells hP hS (fun hZ => ?_)
    exact am_callw (r := r) (va_runI (b := b0 + q) (As := as.map (am_cv b0 b)) (rest := r.map (am_cv b0 b)) (n := b') ⟨hx, hb, hml, hown, hts⟩ hMet ⟨⟨k1, k2, k3, k4, k5, k6, k7, k8, k9, k10, g3⟩, k12, k11⟩ ⟨am_blind, fun U hU hW => ⟨rfl, by rw [hU]; exact hZ, by rw [hU]; exact hP, va_K.moved hW.alike hK⟩⟩ rfl (by rw [List.length_map]; exact x1) hL.1 (by simp [am_cv]) (lv_room (by rw [am_cats_eq]; exact Nat.le_of_ble_eq_true hcat)) hd ⟨by have := hkc.1.1; have := hup.1; dsimp only at *; omega, by have := hkc.1.2; have := hup.2; dsimp only at *; omega⟩) hS (fun H1 locs1 hP1 hS1 => hkc.2 H1 locs1 ls _ _ ⟨hP1, hS1, hL⟩ (by have := hup.1; dsimp only; omega) (by have := hup.2; dsimp only; omega))
set_option maxHeartbeats 1000000 in
theorem am_s_mst (hc : am_ctx p s m args meth c b0 b cI cB dC dI cc own mnm nL n0 scr) (hR : d + 2 ≤ R.frames ∧ 139 + 40 * d ≤ R.locals) (hrep : am_rep b0 b cI cB dC dI s nL H locs ls L h) (hcells : cells + n0 = h.length) (hslots : slots + z0 = am_szs h) (hcap : h.length ≤ R.cells + n0 ∧ am_szs h ≤ R.slots + z0) {i tg a b' w : Nat} (hd : decode cc pc = .ok (.invokestatic i, 3)) (hcal : am_call am_mt own i tg a b' w 0 false = true)
    (hk : am_K (am_mst a b' (pc + 3) L st h) (am_cont p l e R s m args below meth c Q b0 b cI cB dC dI nL n0 z0) Kr (fun j as f => ∃ (w : Option Value) (h1 : am_H), am_met l b0 b cI cB dC dI d j as h w h1 ∧ am_cont p l e R s m args below meth c Q b0 b cI cB dC dI nL n0 z0 (f.1, f.2.1, w.toList ++ f.2.2.1, h1))) : W p l e R s m args below meth c H locs cells slots Q (F0 m pc ls (st.map (am_cv b0 b))) := by
  obtain ⟨hx, hb, hml, hown, hts, hK, hmn, hb0, hsc⟩ := hc
  obtain ⟨hP, hS, hL⟩ := hrep
  unfold am_mst at hk
  split at hk
  next ha =>
    obtain ⟨x, y, r, rfl, hk⟩ := am_i2_inv hk
    obtain ⟨hcat, hk⟩ := am_bb_inv hk
    have hcat : am_cats r ≤ 8 := Nat.le_of_ble_eq_true hcat
    have hk : am_cont p l e R s m args below meth c Q b0 b cI cB dC dI nL n0 z0 (pc + 3, L, .int (if x < y then y else x) :: r, h) := hk
    have hce := am_cats_eq b0 b r
    have ha := am_beq ha
    rw [ha] at hcal
    unfold am_call at hcal
    rw [am_mt_max] at hcal
    simp only [Bool.and_eq_true] at hcal
    obtain ⟨-, g3⟩ := hcal
    have g3 := am_hts hts (of_decide_eq_true g3) rfl
    exact va_mmax hx hb (hml.trans hL.1.symm) hown g3 (am_hts hts (i := 770) (by decide +kernel) rfl) (am_hts hts (i := 92) (by decide +kernel) rfl) (am_hts hts (i := 771) (by decide +kernel) rfl) (by omega) (by omega) (by omega) (by omega) hd (hk.2 H locs ls cells slots ⟨hP, hS, hL⟩ hcells hslots)
  next =>
  split at hk
  next ha =>
    obtain ⟨x, y, r, rfl, hk⟩ := am_i2_inv hk
    obtain ⟨hcat, hk⟩ := am_bb_inv hk
    have hcat : am_cats r ≤ 8 := Nat.le_of_ble_eq_true hcat
    have hk : am_cont p l e R s m args below meth c Q b0 b cI cB dC dI nL n0 z0 (pc + 3, L, .int (if y < x then y else x) :: r, h) := hk
    have hce := am_cats_eq b0 b r
    have ha := am_beq ha
    rw [ha] at hcal
    unfold am_call at hcal
    rw [am_mt_min] at hcal
    simp only [Bool.and_eq_true] at hcal
    obtain ⟨-, g3⟩ := hcal
    have g3 := am_hts hts (of_decide_eq_true g3) rfl
    exact va_mmin hx hb (hml.trans hL.1.symm) hown g3 (am_hts hts (i := 519) (by decide +kernel) rfl) (am_hts hts (i := 92) (by decide +kernel) rfl) (am_hts hts (i := 520) (by decide +kernel) rfl) (by omega) (by omega) (by omega) (by omega) hd (hk.2 H locs ls cells slots ⟨hP, hS, hL⟩ hcells hslots)
  next =>
    obtain ⟨as, r, hpop, hk⟩ := am_pp_inv hk
    obtain ⟨hcat, hk⟩ := am_bb_inv hk
    have hk : ∃ (w : Option Value) (h1 : am_H), am_met l b0 b cI cB dC dI d a as h w h1 ∧ am_cont p l e R s m args below meth c Q b0 b cI cB dC dI nL n0 z0 (pc + 3, L, w.toList ++ r, h1) := hk
    obtain ⟨v1, h1, ⟨hup, M, hM, hMet⟩, hkc⟩ := hk
    obtain ⟨xs, x1, x2, rfl⟩ := am_pop_eq _ _ _ _ _ hpop
    rw [List.append_nil] at x2
    subst x2
    have hh := am_hd_at hM
    unfold am_call at hcal
    rw [hh] at hcal
    simp only [am_hd, Bool.and_eq_true] at hcal
    obtain ⟨⟨g1, g2⟩, g3⟩ := hcal
    have g1 := am_beq g1
    have g2 := am_beq g2
    obtain ⟨⟨k1, k2, k3, k4, k5, k6⟩, k7, k8, k9, k10, k11, k12, k13⟩ := am_callB (mc := h1.length - h.length) (ms := am_szs h1 - am_szs h) hts hR hM g1
    have g3 := am_hts hts (of_decide_eq_true g3) rfl
    have k11 := k11 g2
    refine am_W_size hb0 hcells hP hS (fun hZ => ?_)
    exact am_callw (r := r) (va_runS (As := as.map (am_cv b0 b)) (rest := r.map (am_cv b0 b)) (n := b') ⟨hx, hb, hml, hown, hts⟩ hMet ⟨⟨k1, k2, k3, k4, k5, k6, k7, k8, k9, k10, g3⟩, k11⟩ ⟨am_blind, fun U hU hW => ⟨rfl, by rw [hU]; exact hZ, by rw [hU]; exact hP, va_K.moved hW.alike hK⟩⟩ rfl (by rw [List.length_map]; exact x1) hL.1 (by simp) (lv_room (by rw [am_cats_eq]; exact Nat.le_of_ble_eq_true hcat)) hd ⟨by have := hkc.1.1; have := hup.1; dsimp only at *; omega, by have := hkc.1.2; have := hup.2; dsimp only at *; omega⟩) hS (fun H1 locs1 hP1 hS1 => hkc.2 H1 locs1 ls _ _ ⟨hP1, hS1, hL⟩ (by have := hup.1; dsimp only; omega) (by have := hup.2; dsimp only; omega))
set_option maxHeartbeats 1000000 in
theorem am_s_mstN (hc : am_ctx p s m args meth c b0 b cI cB dC dI cc own mnm nL n0 scr) (hR : d + 2 ≤ R.frames ∧ 139 + 40 * d ≤ R.locals) (hrep : am_rep b0 b cI cB dC dI s nL H locs ls L h) (hcells : cells + n0 = h.length) (hslots : slots + z0 = am_szs h) (hcap : h.length ≤ R.cells + n0 ∧ am_szs h ≤ R.slots + z0) {i tg a b' w : Nat} (hd : decode cc pc = .ok (.invokestatic i, 3)) (hcal : am_call am_mt own i tg a b' w 0 true = true)
    (hk : am_K (am_mst a b' (pc + 3) L st h) (am_cont p l e R s m args below meth c Q b0 b cI cB dC dI nL n0 z0) Kr (fun j as f => ∃ (w : Option Value) (h1 : am_H), am_met l b0 b cI cB dC dI d j as h w h1 ∧ am_cont p l e R s m args below meth c Q b0 b cI cB dC dI nL n0 z0 (f.1, f.2.1, w.toList ++ f.2.2.1, h1))) : W p l e R s m args below meth c H locs cells slots Q (F0 m pc ls (st.map (am_cv b0 b))) := by
  obtain ⟨hx, hb, hml, hown, hts, hK, hmn, hb0, hsc⟩ := hc
  obtain ⟨hP, hS, hL⟩ := hrep
  unfold am_mst at hk
  split at hk
  next ha =>
    rw [am_beq ha] at hcal
    exact absurd hcal (by unfold am_call; rw [am_mt_max]; simp only [Bool.and_eq_true, decide_eq_true_eq, not_and]; intro _ hw; exact am_nonest hw rfl)
  next =>
  split at hk
  next ha =>
    rw [am_beq ha] at hcal
    exact absurd hcal (by unfold am_call; rw [am_mt_min]; simp only [Bool.and_eq_true, decide_eq_true_eq, not_and]; intro _ hw; exact am_nonest hw rfl)
  next =>
    obtain ⟨as, r, hpop, hk⟩ := am_pp_inv hk
    obtain ⟨hcat, hk⟩ := am_bb_inv hk
    have hk : ∃ (w : Option Value) (h1 : am_H), am_met l b0 b cI cB dC dI d a as h w h1 ∧ am_cont p l e R s m args below meth c Q b0 b cI cB dC dI nL n0 z0 (pc + 3, L, w.toList ++ r, h1) := hk
    obtain ⟨v1, h1, ⟨hup, M, hM, hMet⟩, hkc⟩ := hk
    obtain ⟨xs, x1, x2, rfl⟩ := am_pop_eq _ _ _ _ _ hpop
    rw [List.append_nil] at x2
    subst x2
    have hh := am_hd_at hM
    unfold am_call at hcal
    rw [hh] at hcal
    simp only [am_hd, Bool.and_eq_true] at hcal
    obtain ⟨⟨g1, g2⟩, g3⟩ := hcal
    have g1 := am_beq g1
    have g2 := am_beq g2
    obtain ⟨⟨k1, k2, k3, k4, k5, k6⟩, k7, k8, k9, k10, k11, k12, k13⟩ := am_callB (mc := h1.length - h.length) (ms := am_szs h1 - am_szs h) hts hR hM g1
    have g3 := am_hts hts (of_decide_eq_true g3) rfl
    have k11 := k11 g2
    refine am_W_size hb0 hcells hP hS (fun hZ => ?_)
    exact am_callw (r := r) (va_runSN (host := "HoarseHill") (As := as.map (am_cv b0 b)) (rest := r.map (am_cv b0 b)) (n := b') ⟨hx, hb, hml, hown, hts⟩ hMet ⟨⟨⟨k1, k2, k3, k4, k5, k6⟩, k7, k8, k9, k10, g3⟩, k11, trivial⟩ ⟨am_blind, fun U hU hW => ⟨rfl, by rw [hU]; exact hZ, by rw [hU]; exact hP, va_K.moved hW.alike hK⟩⟩ rfl (by rw [List.length_map]; exact x1) hL.1 (by simp) (lv_room (by rw [am_cats_eq]; exact Nat.le_of_ble_eq_true hcat)) hd ⟨by have := hkc.1.1; have := hup.1; dsimp only at *; omega, by have := hkc.1.2; have := hup.2; dsimp only at *; omega⟩) hS (fun H1 locs1 hP1 hS1 => hkc.2 H1 locs1 ls _ _ ⟨hP1, hS1, hL⟩ (by have := hup.1; dsimp only; omega) (by have := hup.2; dsimp only; omega))
set_option maxHeartbeats 1000000 in
theorem am_s_sta {E : am_I} (hc : am_ctx p s m args meth c b0 b cI cB dC dI cc own mnm nL n0 scr) (hR : d + 2 ≤ R.frames ∧ 139 + 40 * d ≤ R.locals) (hrep : am_rep b0 b cI cB dC dI s nL H locs ls L h) (hcells : cells + n0 = h.length) (hslots : slots + z0 = am_szs h) (hcap : h.length ≤ R.cells + n0 ∧ am_szs h ≤ R.slots + z0) {i nx tg a b' w : Nat} {v : Int32} {lv : Int64} {sw : List (Int32 × Nat)} (hE : E = (.invokestatic i, nx, tg, a, b', w, v, lv, sw)) (hok : am_ok1 am_mt own mnm cc nL ret pc E = true)
    (hk : am_K (am_step scr E L st h) (am_cont p l e R s m args below meth c Q b0 b cI cB dC dI nL n0 z0) Kr (fun j as f => ∃ (w : Option Value) (h1 : am_H), am_met l b0 b cI cB dC dI d j as h w h1 ∧ am_cont p l e R s m args below meth c Q b0 b cI cB dC dI nL n0 z0 (f.1, f.2.1, w.toList ++ f.2.2.1, h1))) : W p l e R s m args below meth c H locs cells slots Q (F0 m pc ls (st.map (am_cv b0 b))) := by
  subst hE
  obtain ⟨hd0, hok⟩ := am_and hok
  have hd0 := of_decide_eq_true hd0
  obtain ⟨hx, hb, hml, hown, hts, hK, hmn, hb0, hsc⟩ := hc
  obtain ⟨hP, hS, hL⟩ := hrep
  obtain ⟨hl, hok2⟩ := am_and hok
  obtain ⟨e9, hd⟩ := am_dec hd0 hl
  subst e9
  match tg, hok2, hk with
  | 0, hcal, hk => exact am_s_mst ⟨hx, hb, hml, hown, hts, hK, hmn, hb0, hsc⟩ hR ⟨hP, hS, hL⟩ hcells hslots hcap hd hcal hk
  | 1, hcal, hk => exact am_s_mstN ⟨hx, hb, hml, hown, hts, hK, hmn, hb0, hsc⟩ hR ⟨hP, hS, hL⟩ hcells hslots hcap hd hcal hk
  | t + 3, hcal, hk => exact am_s_mst ⟨hx, hb, hml, hown, hts, hK, hmn, hb0, hsc⟩ hR ⟨hP, hS, hL⟩ hcells hslots hcap hd hcal hk
  | 2, hcal, hk =>
    obtain ⟨dp, n, r, rfl, hk⟩ := am_i2_inv hk
    obtain ⟨q1, r, rfl, hk⟩ := am_r1_inv hk
    obtain ⟨sp, r, rfl, hk⟩ := am_i1_inv hk
    obtain ⟨q2, r, rfl, hk⟩ := am_r1_inv hk
    obtain ⟨hcat, hk⟩ := am_bb_inv hk
    have hcat : am_cats r ≤ 8 := Nat.le_of_ble_eq_true hcat
    obtain ⟨m0, f, hq2, hk⟩ := am_ar_inv hk
    obtain ⟨m1, g, hq, hk⟩ := am_ar_inv hk
    have hk : (¬ sp < 0 ∧ ¬ dp < 0 ∧ ¬ n < 0 ∧ sp.toNatClampNeg + n.toNatClampNeg ≤ m0 ∧ dp.toNatClampNeg + n.toNatClampNeg ≤ m1) ∧ am_cont p l e R s m args below meth c Q b0 b cI cB dC dI nL n0 z0 (pc + 3, L, r, h.set q1 (.inl (false, m1, va_cpy f g sp.toNatClampNeg dp.toNatClampNeg n.toNatClampNeg))) := hk
    obtain ⟨⟨j1, j2, j3, j4, j5⟩, hk⟩ := hk
    have hce := am_cats_eq b0 b r
    have hnf : nativeFrameWords "java/lang/System" "arraycopy" 5 ≤ 60 := by decide +kernel
    exact va_copyi (ty := .int) hx hb (hml.trans hL.1.symm) hown (am_hts hts (of_decide_eq_true hcal) rfl) (am_hts hts (i := 396) (by decide +kernel) rfl) (am_hts hts (i := 395) (by decide +kernel) rfl) (am_hts hts (i := 91) (by decide +kernel) rfl) hK hP (am_cw_D h) hS q2 q1 0 0 (am_cw_get hq2) (am_cw_get hq) rfl rfl rfl j1 j2 j3 j4 j5 (fun _ _ => rfl) (by omega) (by omega) hd (fun H1 locs1 hP1 hD1 hS1 => hk.2 H1 locs1 ls cells slots ⟨by rw [am_cw_set, Nat.zero_add]; simpa [am_ce, am_cv] using hP1, hS1, hL⟩ (by simpa using hcells) (hslots.trans (am_szs_setA hq).symm))
end
end
section
/-! runs: what my machine does in a method, the JVM does; the contracts of all methods -/
def am_retAt (cc : ByteArray) (ret : Option FieldType) (pc : Nat) (w : Option Value) : Prop :=
  (∃ x : Int32, w = some (.int x) ∧ decode cc pc = .ok (.ireturn, 1) ∧ (ret = some .int ∨ ret = some .boolean ∧ (x = 0 ∨ x = 1))) ∨ (∃ (q : Nat) (C : String), w = some (.ref q) ∧ decode cc pc = .ok (.areturn, 1) ∧ ret = some (.object C)) ∨ (w = none ∧ decode cc pc = .ok (.return_, 1) ∧ ret = none)
theorem am_K_map {o : am_R} {K K' : am_F → Prop} {Kr Kr' : Prop → Option Value → Prop} {Kc Kc' : Nat → List Value → am_F → Prop} (h : am_K o K Kr Kc) (h1 : ∀ f, K f → K' f) (h2 : ∀ c w, Kr c w → Kr' c w) (h3 : ∀ j as f, Kc j as f → Kc' j as f) : am_K o K' Kr' Kc' := by
  match o, h with
  | .inl f, h => exact h1 f h
  | .inr (.inl (c, f, g)), h => exact ⟨fun hc => h1 f (h.1 hc), fun hc => h1 g (h.2 hc)⟩
  | .inr (.inr (.inl (c, f))), h => exact ⟨h.1, h1 f h.2⟩
  | .inr (.inr (.inr (.inl (c, w)))), h => exact h2 c w h
  | .inr (.inr (.inr (.inr (.inl (j, as, f))))), h => exact h3 j as f h
section
variable {p : Program} {l : Launch} {e : Env} {R : Room} {s : State} {m : MethodId} {args : Array Value} {below : List Frame} {meth : Method} {c : Code} {Q : State → Prop}
variable {b0 b : Nat} {cI cB : ClassId} {dC : Nat → ClassId} {dI : Nat → Nat → Nat} {cc : ByteArray} {own mnm : String} {nL n0 z0 : Nat} {ret : Option FieldType} {scr : Option (Nat × (Nat → Int32))}
set_option maxHeartbeats 4000000 in
theorem am_one {H : Heap} {locs : List Loc} {ls : Array Slot} {cells slots pc d : Nat} {L : am_L} {st : List Value} {h : am_H} {E : am_I} {Kf : Option Value → Prop} (hc : am_ctx p s m args meth c b0 b cI cB dC dI cc own mnm nL n0 scr) (hR : d + 2 ≤ R.frames ∧ 139 + 40 * d ≤ R.locals) (hrep : am_rep b0 b cI cB dC dI s nL H locs ls L h) (hcells : cells + n0 = h.length) (hslots : slots + z0 = am_szs h) (hcap : h.length ≤ R.cells + n0 ∧ am_szs h ≤ R.slots + z0) (hok : am_ok1 am_mt own mnm cc nL ret pc E = true)
    (hret : ∀ w, am_retAt cc ret pc w → Kf w → W p l e R s m args below meth c H locs cells slots Q (F0 m pc ls (w.toList.map (am_cv b0 b))))
    (hk : am_K (am_step scr E L st h) (am_cont p l e R s m args below meth c Q b0 b cI cB dC dI nL n0 z0) (fun c w => c ∧ Kf w) (fun j as f => ∃ (w : Option Value) (h1 : am_H), am_met l b0 b cI cB dC dI d j as h w h1 ∧ am_cont p l e R s m args below meth c Q b0 b cI cB dC dI nL n0 z0 (f.1, f.2.1, w.toList ++ f.2.2.1, h1))) : W p l e R s m args below meth c H locs cells slots Q (F0 m pc ls (st.map (am_cv b0 b))) := by
  have hroom : 1 ≤ R.frames ∧ 100 ≤ R.locals := ⟨by omega, by omega⟩
  obtain ⟨ins, nx, tg, a, b', w, v, lv, sw⟩ := E
  cases ins with
  | iconst => exact am_s_iconst hc hroom hrep hcells hslots rfl hok hk
  | bipush => exact am_s_bipush hc hroom hrep hcells hslots rfl hok hk
  | sipush => exact am_s_sipush hc hroom hrep hcells hslots rfl hok hk
  | lconst => exact am_s_lconst hc hroom hrep hcells hslots rfl hok hk
  | ldc => exact am_s_ldc hc hroom hrep hcells hslots rfl hok hk
  | ldc_w => exact am_s_ldc_w hc hroom hrep hcells hslots rfl hok hk
  | ldc2_w => exact am_s_ldc2_w hc hroom hrep hcells hslots rfl hok hk
  | iload => exact am_s_iload hc hroom hrep hcells hslots rfl hok hk
  | iload_n => exact am_s_iload_n hc hroom hrep hcells hslots rfl hok hk
  | lload => exact am_s_lload hc hroom hrep hcells hslots rfl hok hk
  | lload_n => exact am_s_lload_n hc hroom hrep hcells hslots rfl hok hk
  | aload => exact am_s_aload hc hroom hrep hcells hslots rfl hok hk
  | aload_n => exact am_s_aload_n hc hroom hrep hcells hslots rfl hok hk
  | istore => exact am_s_istore hc hroom hrep hcells hslots rfl hok hk
  | istore_n => exact am_s_istore_n hc hroom hrep hcells hslots rfl hok hk
  | astore => exact am_s_astore hc hroom hrep hcells hslots rfl hok hk
  | astore_n => exact am_s_astore_n hc hroom hrep hcells hslots rfl hok hk
  | lstore => exact am_s_lstore hc hroom hrep hcells hslots rfl hok hk
  | lstore_n => exact am_s_lstore_n hc hroom hrep hcells hslots rfl hok hk
  | iinc => exact am_s_iinc hc hroom hrep hcells hslots rfl hok hk
  | iadd => exact am_s_iadd hc hroom hrep hcells hslots rfl hok hk
  | isub => exact am_s_isub hc hroom hrep hcells hslots rfl hok hk
  | imul => exact am_s_imul hc hroom hrep hcells hslots rfl hok hk
  | iand => exact am_s_iand hc hroom hrep hcells hslots rfl hok hk
  | ior => exact am_s_ior hc hroom hrep hcells hslots rfl hok hk
  | ixor => exact am_s_ixor hc hroom hrep hcells hslots rfl hok hk
  | ishl => exact am_s_ishl hc hroom hrep hcells hslots rfl hok hk
  | ishr => exact am_s_ishr hc hroom hrep hcells hslots rfl hok hk
  | iushr => exact am_s_iushr hc hroom hrep hcells hslots rfl hok hk
  | idiv => exact am_s_idiv hc hroom hrep hcells hslots rfl hok hk
  | irem => exact am_s_irem hc hroom hrep hcells hslots rfl hok hk
  | ladd => exact am_s_ladd hc hroom hrep hcells hslots rfl hok hk
  | lmul => exact am_s_lmul hc hroom hrep hcells hslots rfl hok hk
  | lrem => exact am_s_lrem hc hroom hrep hcells hslots rfl hok hk
  | lcmp => exact am_s_lcmp hc hroom hrep hcells hslots rfl hok hk
  | ineg => exact am_s_ineg hc hroom hrep hcells hslots rfl hok hk
  | i2l => exact am_s_i2l hc hroom hrep hcells hslots rfl hok hk
  | l2i => exact am_s_l2i hc hroom hrep hcells hslots rfl hok hk
  | i2b => exact am_s_i2b hc hroom hrep hcells hslots rfl hok hk
  | i2s => exact am_s_i2s hc hroom hrep hcells hslots rfl hok hk
  | dup => exact am_s_dup hc hroom hrep hcells hslots rfl hok hk
  | dup2 => exact am_s_dup2 hc hroom hrep hcells hslots rfl hok hk
  | pop => exact am_s_pop hc hroom hrep hcells hslots rfl hok hk
  | goto => exact am_s_goto hc hroom hrep hcells hslots rfl hok hk
  | if_icmp => exact am_s_icmp hc hroom hrep hcells hslots rfl hok hk
  | ifCond => exact am_s_ifc hc hroom hrep hcells hslots rfl hok hk
  | tableswitch => exact am_s_tsw hc hroom hrep hcells hslots rfl hok hk
  | lookupswitch => exact am_s_lsw hc hroom hrep hcells hslots rfl hok hk
  | getfield => exact am_s_getf hc hroom hrep hcells hslots rfl hok hk
  | putfield => exact am_s_putf hc hroom hrep hcells hslots rfl hok hk
  | iaload => exact am_s_iald hc hroom hrep hcells hslots rfl hok hk
  | baload => exact am_s_bald hc hroom hrep hcells hslots rfl hok hk
  | iastore => exact am_s_iast hc hroom hrep hcells hslots rfl hok hk
  | bastore => exact am_s_bast hc hroom hrep hcells hslots rfl hok hk
  | arraylength => exact am_s_alen hc hroom hrep hcells hslots rfl hok hk
  | new => exact am_s_new hc hroom hrep hcells hslots rfl hok hk
  | newarray => exact am_s_newa hc hroom hrep hcells hslots rfl hok hk
  | invokevirtual i => exact am_s_vir hc hR hrep hcells hslots hcap rfl hok hk
  | invokespecial i => exact am_s_spe hc hR hrep hcells hslots hcap rfl hok hk
  | invokestatic i => exact am_s_sta hc hR hrep hcells hslots hcap rfl hok hk
  | ireturn =>
    obtain ⟨hd0, hok1⟩ := am_and hok
    have hd0 := of_decide_eq_true hd0
    obtain ⟨hl, hm⟩ := am_and hok1
    obtain ⟨e9, hd⟩ := am_dec hd0 hl
    obtain ⟨x, r, rfl, hk1⟩ := am_i1_inv hk
    obtain ⟨rfl, hk2⟩ := am_nil_inv hk1
    match tg, hm, hk2 with
    | 0, hm, hk2 => exact hret _ (Or.inl ⟨x, rfl, hd, Or.inl (of_decide_eq_true hm)⟩) hk2.2
    | t + 1, hm, hk2 => exact hret _ (Or.inl ⟨x, rfl, hd, Or.inr ⟨of_decide_eq_true hm, hk2.1⟩⟩) hk2.2
  | areturn =>
    obtain ⟨hd0, hok1⟩ := am_and hok
    have hd0 := of_decide_eq_true hd0
    obtain ⟨hl, hm⟩ := am_and hok1
    obtain ⟨e9, hd⟩ := am_dec hd0 hl
    obtain ⟨x, r, rfl, hk1⟩ := am_r1_inv hk
    obtain ⟨rfl, hk2⟩ := am_nil_inv hk1
    match ret, hret, hm with
    | some (.object C), hret, hm => exact hret _ (Or.inr (Or.inl ⟨x, C, rfl, hd, rfl⟩)) hk2.2
  | return_ =>
    obtain ⟨hd0, hok1⟩ := am_and hok
    have hd0 := of_decide_eq_true hd0
    obtain ⟨hl, hm⟩ := am_and hok1
    obtain ⟨e9, hd⟩ := am_dec hd0 hl
    obtain ⟨rfl, hk2⟩ := am_nil_inv hk
    exact hret _ (Or.inr (Or.inr ⟨rfl, hd, of_decide_eq_true hm⟩)) hk2.2
  | _ => exact hk.elim
theorem am_run_sound {d : Nat} (hc : am_ctx p s m args meth c b0 b cI cB dC dI cc own mnm nL n0 scr) (hR : d + 2 ≤ R.frames ∧ 139 + 40 * d ≤ R.locals) {C : Nat → List Value → am_H → Option Value → am_H → Prop} (hC : ∀ j as h w h1, C j as h w h1 → am_met l b0 b cI cB dC dI d j as h w h1) {t : am_T} (ht : am_okT (am_ok1 am_mt own mnm cc nL ret) 0 t = true) {v : Option Value} {h' : am_H} (hN : h'.length ≤ R.cells + n0 ∧ am_szs h' ≤ R.slots + z0)
    (hret : ∀ (pc : Nat) (H : Heap) (locs : List Loc) (ls : Array Slot) (cells slots : Nat) (L : am_L), am_rep b0 b cI cB dC dI s nL H locs ls L h' → cells + n0 = h'.length → slots + z0 = am_szs h' → am_retAt cc ret pc v → W p l e R s m args below meth c H locs cells slots Q (F0 m pc ls (v.toList.map (am_cv b0 b)))) :
    ∀ (n : Nat) (f : am_F), am_run scr C t n f v h' → am_cont p l e R s m args below meth c Q b0 b cI cB dC dI nL n0 z0 f
  | 0, f, hr => by cases hr
  | n + 1, f, hr => by
    have hup := am_run_up (fun j as h w h1 hj => (hC j as h w h1 hj).1) (n + 1) f hr
    have hcap : f.2.2.2.length ≤ R.cells + n0 ∧ am_szs f.2.2.2 ≤ R.slots + z0 := ⟨Nat.le_trans hup.1 hN.1, Nat.le_trans hup.2 hN.2⟩
    refine ⟨hcap, fun H locs ls cells slots hrep hcells hslots => ?_⟩
    unfold am_run at hr
    split at hr
    next => cases hr
    next E hE =>
      refine am_one (Kf := fun w => v = w ∧ h' = f.2.2.2) hc hR hrep hcells hslots hcap (am_fetch_ok ht hE) (fun w hw hf => ?_) (am_K_map hr (fun g hg => am_run_sound hc hR hC ht hN hret n g hg) (fun c w hw => hw) (fun j as g hg => ?_))
      · obtain ⟨rfl, e2⟩ := hf
        rw [← e2] at hrep hcells hslots
        exact hret f.1 H locs ls cells slots f.2.1 hrep hcells hslots hw
      · obtain ⟨w, h1, h2, h3⟩ := hg
        exact ⟨w, h1, hC _ _ _ _ _ h2, am_run_sound hc hR hC ht hN hret n _ h3⟩
end
theorem am_ent_at {b0 b : Nat} : ∀ (as : List Value) (i : Nat) (v : Value), (as.flatMap (fun v => if v.category = 2 then [some v, none] else [some v]))[i]? = some (some v) → (lg_sl (as.map (am_cv b0 b)))[i]? = some (.val (am_cv b0 b v))
  | [], i, v, h => by simp at h
  | a :: as, i, v, h => by
    by_cases hc : a.category = 2
    · have e1 : lg_sl ((a :: as).map (am_cv b0 b)) = Slot.val (am_cv b0 b a) :: Slot.second :: lg_sl (as.map (am_cv b0 b)) := by
        simp [lg_sl, am_cv_cat, hc]
      rw [e1]
      simp only [List.flatMap_cons, hc, if_true] at h
      match i, h with
      | 0, h => simp at h; subst h; rfl
      | 1, h => simp at h
      | i + 2, h => exact am_ent_at as i v (by simpa using h)
    · have e1 : lg_sl ((a :: as).map (am_cv b0 b)) = Slot.val (am_cv b0 b a) :: lg_sl (as.map (am_cv b0 b)) := by
        simp [lg_sl, am_cv_cat, hc]
      rw [e1]
      simp only [List.flatMap_cons, hc, if_false] at h
      match i, h with
      | 0, h => simp at h; subst h; rfl
      | i + 1, h => exact am_ent_at as i v (by simpa using h)
theorem am_ent_len {b0 b : Nat} : ∀ as : List Value, (lg_sl (as.map (am_cv b0 b))).length = (as.flatMap (fun v => if v.category = 2 then [some v, none] else [some v])).length
  | [] => rfl
  | a :: as => by
    have ih := am_ent_len (b0 := b0) (b := b) as
    by_cases hc : a.category = 2
    · have e1 : lg_sl ((a :: as).map (am_cv b0 b)) = Slot.val (am_cv b0 b a) :: Slot.second :: lg_sl (as.map (am_cv b0 b)) := by
        simp [lg_sl, am_cv_cat, hc]
      rw [e1]
      simp [List.flatMap_cons, hc, ih]
    · have e1 : lg_sl ((a :: as).map (am_cv b0 b)) = Slot.val (am_cv b0 b a) :: lg_sl (as.map (am_cv b0 b)) := by
        simp [lg_sl, am_cv_cat, hc]
      rw [e1]
      simp [List.flatMap_cons, hc, ih]
theorem am_ent_lh {b0 b nL : Nat} {as : List Value} (hl : (am_ent nL as).length = nL) : am_lh b0 b ((lg_sl (as.map (am_cv b0 b)) ++ List.replicate (nL - (lg_sl (as.map (am_cv b0 b))).length) Slot.unset).toArray) nL (am_ent nL as) := by
  have hlen := am_ent_len (b0 := b0) (b := b) as
  have hle : (lg_sl (as.map (am_cv b0 b))).length ≤ nL := by
    unfold am_ent at hl
    simp only [List.length_append, List.length_replicate] at hl
    omega
  have h1 := lv_entry (as.map (am_cv b0 b)) hle
  refine ⟨h1.1, h1.2.1, hl, fun i v hi => ?_⟩
  unfold am_ent at hi
  simp only at hi
  have hlt : i < (as.flatMap (fun v => if v.category = 2 then [some v, none] else [some v])).length := by
    refine Nat.lt_of_not_le (fun h => ?_)
    rw [List.getElem?_append_right h] at hi
    have := List.eq_of_mem_replicate (List.mem_of_getElem? hi)
    cases this
  rw [List.getElem?_append_left hlt] at hi
  have h2 := am_ent_at (b0 := b0) (b := b) as i v hi
  rw [List.getElem?_toArray, List.getElem?_append_left (by rw [hlen]; exact hlt)]
  exact h2
set_option maxHeartbeats 1000000 in
/-- what my machine says of a method is its contract -/
theorem am_ev_met {l : Launch} {b0 b : Nat} {cI cB : ClassId} {dC : Nat → ClassId} {dI : Nat → Nat → Nat} : ∀ (d j : Nat) (as : List Value) (h : am_H) (v : Option Value) (h' : am_H), am_ev d j as h v h' → am_met l b0 b cI cB dC dI d j as h v h'
  | 0, _, _, _, _, _, hv => by cases hv
  | d + 1, j, as, h, v, h', hv => by
    have hup := am_ev_up (d + 1) j as h v h' hv
    obtain ⟨M, n, hM, hent, hr⟩ := hv
    refine ⟨hup, M, hM, ?_⟩
    obtain ⟨hH, hT⟩ := am_ms_ok M (List.mem_of_getElem? hM)
    have hpl : plainName M.1.cls = true := by
      obtain ⟨y, c1, nL1, ret1, kd, w1, w2, w3, w4, n1, t1⟩ := M
      simp only [am_okH, Bool.and_eq_true, decide_eq_true_eq] at hH
      exact hH.1.1.1.1.2
    refine Met.ofW (cc := M.2.1) (maxL := M.2.2.1) (ret := M.2.2.2.1) hpl rfl ?_
    intro p e s m args below meth c s₁ B hml hv
    obtain ⟨rfl, hsz, hP, hK⟩ := hv
    have hts := atoms_spec (ws := am_wsM M) B.pre
    have hr9 := B.returns
    have hlocks := B.notSynchronized
    rw [lg_entry_eq]
    refine (am_run_sound (b0 := b0) (b := b) (cI := cI) (cB := cB) (dC := dC) (dI := dI) (n0 := h.length) (z0 := am_szs h) (d := d) (own := M.1.cls) (mnm := M.1.name) (cc := M.2.1) (nL := M.2.2.1) (ret := M.2.2.2.1) (scr := none)
      ⟨B.exec, B.bytes, hml, findClass_of_methodNamed B.named, fun w hw => hts w (List.mem_cons_of_mem _ hw), hK, fun _ => (name_of_methodNamed B.named B.method).1, hsz, fun n xs hx => by cases hx⟩
      ⟨Nat.le_refl _, by show 139 + 40 * d ≤ 100 + 40 * (d + 1); omega⟩ (fun j as h w h1 hj => am_ev_met d j as h w h1 hj) hT ⟨by show h'.length ≤ (h'.length - h.length) + h.length; have := hup.1; omega, by show am_szs h' ≤ (am_szs h' - am_szs h) + am_szs h; have := hup.2; omega⟩ ?_ n _ hr).2 s.heap [] _ 0 0 ⟨hP, va_S.rf, am_ent_lh hent⟩ (Nat.zero_add _) (Nat.zero_add _)
    intro pc H locs ls cells slots L hrep hcells hslots hret
    obtain ⟨hP1, hS1, -⟩ := hrep
    have e1 : cells = h'.length - h.length := by omega
    have e2 : slots = am_szs h' - am_szs h := by omega
    subst e1
    subst e2
    rcases hret with ⟨x, rfl, hd, hrt⟩ | ⟨q, C, rfl, hd, hrt⟩ | ⟨rfl, hd, hrt⟩
    · rcases hrt with hrt | ⟨hrt, hx⟩
      · exact W.iret (v := x) B.exec B.bytes (hr9.trans hrt) (fun t ht hW => ⟨rfl, by rw [ht]; exact hP1, hS1.F ht⟩) hS1.2.2 hd
      · exact W.zret (v := x) B.exec B.bytes (hr9.trans hrt) (by rcases hx with rfl | rfl <;> rfl) (fun t ht hW => ⟨rfl, by rw [ht]; exact hP1, hS1.F ht⟩) hS1.2.2 hd
    · exact W.aret (v := .ref (b0 + q)) B.exec B.bytes (hr9.trans hrt) (Or.inl ⟨C, rfl⟩) (Or.inr ⟨_, rfl⟩) (fun t ht hW => ⟨rfl, by rw [ht]; exact hP1, hS1.F ht⟩) hS1.2.2 hd
    · exact W.vret B.exec B.bytes (hr9.trans hrt) (fun t ht hW => ⟨rfl, by rw [ht]; exact hP1, hS1.F ht⟩) hS1.2.2 hd
end
section
/-! the law, out of its run on my machine -/
theorem am_arr {s : State} {args : Array Value} {ty : FieldType} (hp : ∀ C, ty ≠ .object C) (h : (Jvm.Cond.arrayClass ty).before args s = true) : ∃ cA : ClassId, ArrOfT s cA ty ∧ va_RA s cA ty := by
  obtain ⟨cA, kA, comp, h1, h2, h3⟩ := Cond.arrayClass_spec h
  refine ⟨cA, fun n z => ⟨fun k h => (by cases h), kA, h2, comp, h3⟩, ?_⟩
  cases ty with
  | object C => exact absurd rfl (hp C)
  | _ => exact h1
/-- what is asked of the law's run: for every script it ends with 1, in the claim's room -/
def am_good (L : Nat) (xs : Nat → Int32) : Prop := ∃ (n : Nat) (h' : am_H), am_run (some (L, xs)) (am_ev 40) am_t_law n (0, [some (.retAddr 0), none, none, none], [], []) (some (.int 1)) h' ∧ h'.length ≤ 600000 ∧ am_szs h' ≤ 7302250
set_option maxHeartbeats 4000000 in
theorem am_whole {p : Program} {e : Env} {s : State} {m : MethodId} {below : List Frame} {meth : Method} {c : Code} (l : Launch) {b L : Nat} {xs : Nat → Int32} (hG : am_good L xs) (hx : p.tables.exec = Jvm.exec) (hb : c.code = code) (hml : c.maxLocals = 4) (hown : s.vm.findClass "HoarseHillLaw" = some m.cls) (hts0 : ∀ w ∈ lw_tbl, w.before #[Value.ref b] s = true) (hX : va_X b L xs s s.heap) (hbl : b < s.heap.size) {Q : State → Prop}
    (hret : ∀ (pc : Nat) (H : Heap) (ls : Array Slot), decode code pc = .ok (.ireturn, 1) → W p l e room_1 s m #[Value.ref b] below meth c H [] 600000 7302250 Q (F0 m pc ls [.int 1])) : W p l e room_1 s m #[Value.ref b] below meth c s.heap [] 0 0 Q (entryFrame m ([Value.ref b] : List Value).toArray 4) := by
  obtain ⟨n, h', hr, hn1, hn2⟩ := hG
  have hts : ∀ w ∈ am_ws, w.before #[Value.ref b] s = true := fun w hw => hts0 w (List.mem_filter.mp hw).1
  obtain ⟨cI, hI⟩ := am_arr (s := s) (ty := .int) (fun C h => by cases h) (hts (.arrayClass .int) (by decide +kernel))
  obtain ⟨cB, hB⟩ := am_arr (s := s) (ty := .boolean) (fun C h => by cases h) (hts (.arrayClass .boolean) (by decide +kernel))
  have hkn : ∀ (ci : Nat) (q : vw_C), vwCl[ci]? = some q → ∃ (cC : ClassId) (iS : Nat → Nat), u_Kn s q.1 q.2.1 q.2.2 cC iS := by
    intro ci q hq
    obtain ⟨-, -, g3, g4, -⟩ := am_cls ci q hq
    exact u_known hts g3 (hts _ g4)
  have hkn2 : ∀ ci : Nat, ∃ (cC : ClassId) (iS : Nat → Nat), ∀ q : vw_C, vwCl[ci]? = some q → u_Kn s q.1 q.2.1 q.2.2 cC iS := by
    intro ci
    cases hq : vwCl[ci]? with
    | none => exact ⟨0, fun _ => 0, fun q h => by cases h⟩
    | some q =>
      obtain ⟨cC, iS, h⟩ := hkn ci q hq
      exact ⟨cC, iS, fun q' h' => by cases h'; exact h⟩
  have hK : va_K (fun ci => Classical.choose (hkn2 ci), fun ci => Classical.choose (Classical.choose_spec (hkn2 ci))) vwCl [(cI, .int), (cB, .boolean)] s := by
    refine ⟨fun ci q hq => Classical.choose_spec (Classical.choose_spec (hkn2 ci)) q hq, fun k q hk => ?_⟩
    match k, hk with
    | 0, hk => cases hk; exact hI
    | 1, hk => cases hk; exact hB
    | k + 2, hk => simp at hk
  rw [lg_entry_eq]
  have hlh : am_lh s.heap.size b ((lg_sl [Value.ref b] ++ List.replicate (4 - (lg_sl [Value.ref b]).length) Slot.unset).toArray) 4 [some (.retAddr 0), none, none, none] := by
    have h1 := lv_entry [Value.ref b] (n := 4) (Nat.le_of_ble_eq_true rfl)
    refine ⟨h1.1, h1.2.1, rfl, fun i v hi => ?_⟩
    match i, hi with
    | 0, hi => cases hi; rfl
    | 1, hi => cases hi
    | 2, hi => cases hi
    | 3, hi => cases hi
    | i + 4, hi => simp at hi
  refine (am_run_sound (b0 := s.heap.size) (b := b) (cI := cI) (cB := cB) (n0 := 0) (z0 := 0) (d := 40) (own := "HoarseHillLaw") (mnm := "law") (cc := code) (nL := 4) (ret := some .boolean) (scr := some (L, xs))
    ⟨hx, hb, hml, hown, hts, hK, fun h => absurd h (by decide), rfl, fun n0 xs0 h0 => by cases h0; exact ⟨hX, hbl⟩⟩
    ⟨by decide, by decide⟩ (fun j as h w h1 hj => am_ev_met 40 j as h w h1 hj) am_q_law ⟨hn1, hn2⟩ ?_ n _ hr).2 s.heap [] _ 0 0 ⟨fun k q hq => by simp [am_cw] at hq, va_S.rf, hlh⟩ rfl rfl
  intro pc H locs ls cells slots L1 hrep hcells hslots hrt
  rcases hrt with ⟨x, hx1, hd, -⟩ | ⟨q, C, hx1, -⟩ | ⟨hx1, -⟩
  · cases hx1
    refine va_forget (fun q hq => hrep.2.1.2.2 q hq) ?_
    refine W.widen (k := 600000) (n := 7302250) (by omega) (by omega) ?_
    exact hret pc H ls hd
  · cases hx1
  · cases hx1
end
