section
-- ===== PART A: goes FIRST, ahead of the names: the tables' words, and 'selects' of the private methods out of them =====
/-- a private method of a class that the tables say can be made, by its rows of tables_1 -/
def lw_okq (q : MethodName × Nat) : Prop := (q.1.cls ≠ "java/lang/invoke/MethodHandle" ∧ q.1.cls ≠ "java/lang/invoke/VarHandle") ∧ Cond.instantiable q.1.cls q.2 ∈ tables_1 ∧ Cond.privateMethod q.1 ∈ tables_1 ∧ Cond.instanceMethod q.1 ∈ tables_1
theorem lw_p0 : lw_okq (⟨"HoarseHill", "found", "(I)I"⟩, 13) := ⟨⟨by decide +kernel, by decide +kernel⟩, List.mem_of_getElem? (i := 15) (by decide +kernel), List.mem_of_getElem? (i := 274) (by decide +kernel), List.mem_of_getElem? (i := 275) (by decide +kernel)⟩
theorem lw_p1 : lw_okq (⟨"HoarseHill", "foundNothing", "(I)I"⟩, 13) := ⟨⟨by decide +kernel, by decide +kernel⟩, List.mem_of_getElem? (i := 15) (by decide +kernel), List.mem_of_getElem? (i := 283) (by decide +kernel), List.mem_of_getElem? (i := 284) (by decide +kernel)⟩
theorem lw_p2 : lw_okq (⟨"HoarseHill$Tape", "readLaw", "(LHoarseHill$Hill;)V"⟩, 4) := ⟨⟨by decide +kernel, by decide +kernel⟩, List.mem_of_getElem? (i := 107) (by decide +kernel), List.mem_of_getElem? (i := 351) (by decide +kernel), List.mem_of_getElem? (i := 352) (by decide +kernel)⟩
theorem lw_p3 : lw_okq (⟨"HoarseHill$Tape", "take", "(I)V"⟩, 4) := ⟨⟨by decide +kernel, by decide +kernel⟩, List.mem_of_getElem? (i := 107) (by decide +kernel), List.mem_of_getElem? (i := 355) (by decide +kernel), List.mem_of_getElem? (i := 356) (by decide +kernel)⟩
theorem lw_p4 : lw_okq (⟨"HoarseHill$Tape", "letterAt", "(I)I"⟩, 4) := ⟨⟨by decide +kernel, by decide +kernel⟩, List.mem_of_getElem? (i := 107) (by decide +kernel), List.mem_of_getElem? (i := 359) (by decide +kernel), List.mem_of_getElem? (i := 360) (by decide +kernel)⟩
theorem lw_p5 : lw_okq (⟨"HoarseHill$Tape", "takeNumber", "(II)I"⟩, 4) := ⟨⟨by decide +kernel, by decide +kernel⟩, List.mem_of_getElem? (i := 107) (by decide +kernel), List.mem_of_getElem? (i := 363) (by decide +kernel), List.mem_of_getElem? (i := 364) (by decide +kernel)⟩
theorem lw_p6 : lw_okq (⟨"HoarseHill$Tape", "figuresAt", "(I)I"⟩, 4) := ⟨⟨by decide +kernel, by decide +kernel⟩, List.mem_of_getElem? (i := 107) (by decide +kernel), List.mem_of_getElem? (i := 367) (by decide +kernel), List.mem_of_getElem? (i := 368) (by decide +kernel)⟩
theorem lw_p7 : lw_okq (⟨"HoarseHill$Tape", "readMotions", "(LHoarseHill$Hill;)V"⟩, 4) := ⟨⟨by decide +kernel, by decide +kernel⟩, List.mem_of_getElem? (i := 107) (by decide +kernel), List.mem_of_getElem? (i := 374) (by decide +kernel), List.mem_of_getElem? (i := 375) (by decide +kernel)⟩
theorem lw_p8 : lw_okq (⟨"HoarseHill$Tape", "readMotion", "(LHoarseHill$Hill;)V"⟩, 4) := ⟨⟨by decide +kernel, by decide +kernel⟩, List.mem_of_getElem? (i := 107) (by decide +kernel), List.mem_of_getElem? (i := 378) (by decide +kernel), List.mem_of_getElem? (i := 379) (by decide +kernel)⟩
theorem lw_p9 : lw_okq (⟨"HoarseHill$Tape", "readMembers", "(LHoarseHill$Hill;)V"⟩, 4) := ⟨⟨by decide +kernel, by decide +kernel⟩, List.mem_of_getElem? (i := 107) (by decide +kernel), List.mem_of_getElem? (i := 386) (by decide +kernel), List.mem_of_getElem? (i := 387) (by decide +kernel)⟩
theorem lw_p10 : lw_okq (⟨"HoarseHill$Tape", "readMember", "(LHoarseHill$Hill;)V"⟩, 4) := ⟨⟨by decide +kernel, by decide +kernel⟩, List.mem_of_getElem? (i := 107) (by decide +kernel), List.mem_of_getElem? (i := 390) (by decide +kernel), List.mem_of_getElem? (i := 391) (by decide +kernel)⟩
theorem lw_p11 : lw_okq (⟨"HoarseHill$Planning", "tryDay", "(II)V"⟩, 7) := ⟨⟨by decide +kernel, by decide +kernel⟩, List.mem_of_getElem? (i := 162) (by decide +kernel), List.mem_of_getElem? (i := 564) (by decide +kernel), List.mem_of_getElem? (i := 565) (by decide +kernel)⟩
theorem lw_p12 : lw_okq (⟨"HoarseHill$Planning", "closePlan", "(II)V"⟩, 7) := ⟨⟨by decide +kernel, by decide +kernel⟩, List.mem_of_getElem? (i := 162) (by decide +kernel), List.mem_of_getElem? (i := 569) (by decide +kernel), List.mem_of_getElem? (i := 570) (by decide +kernel)⟩
theorem lw_p13 : lw_okq (⟨"HoarseHill$Planning", "takePath", "(II)V"⟩, 7) := ⟨⟨by decide +kernel, by decide +kernel⟩, List.mem_of_getElem? (i := 162) (by decide +kernel), List.mem_of_getElem? (i := 574) (by decide +kernel), List.mem_of_getElem? (i := 575) (by decide +kernel)⟩
theorem lw_p14 : lw_okq (⟨"HoarseHill$Planning", "keepBreaths", "(I)V"⟩, 7) := ⟨⟨by decide +kernel, by decide +kernel⟩, List.mem_of_getElem? (i := 162) (by decide +kernel), List.mem_of_getElem? (i := 578) (by decide +kernel), List.mem_of_getElem? (i := 579) (by decide +kernel)⟩
theorem lw_p15 : lw_okq (⟨"HoarseHill$Planning", "giveBreathsBack", "(I)V"⟩, 7) := ⟨⟨by decide +kernel, by decide +kernel⟩, List.mem_of_getElem? (i := 162) (by decide +kernel), List.mem_of_getElem? (i := 584) (by decide +kernel), List.mem_of_getElem? (i := 585) (by decide +kernel)⟩
def lw_privs_1 : List (MethodName × Nat) := [(⟨"HoarseHill", "found", "(I)I"⟩, 13), (⟨"HoarseHill", "foundNothing", "(I)I"⟩, 13), (⟨"HoarseHill$Tape", "readLaw", "(LHoarseHill$Hill;)V"⟩, 4), (⟨"HoarseHill$Tape", "take", "(I)V"⟩, 4), (⟨"HoarseHill$Tape", "letterAt", "(I)I"⟩, 4), (⟨"HoarseHill$Tape", "takeNumber", "(II)I"⟩, 4), (⟨"HoarseHill$Tape", "figuresAt", "(I)I"⟩, 4), (⟨"HoarseHill$Tape", "readMotions", "(LHoarseHill$Hill;)V"⟩, 4), (⟨"HoarseHill$Tape", "readMotion", "(LHoarseHill$Hill;)V"⟩, 4), (⟨"HoarseHill$Tape", "readMembers", "(LHoarseHill$Hill;)V"⟩, 4), (⟨"HoarseHill$Tape", "readMember", "(LHoarseHill$Hill;)V"⟩, 4), (⟨"HoarseHill$Planning", "tryDay", "(II)V"⟩, 7), (⟨"HoarseHill$Planning", "closePlan", "(II)V"⟩, 7), (⟨"HoarseHill$Planning", "takePath", "(II)V"⟩, 7), (⟨"HoarseHill$Planning", "keepBreaths", "(I)V"⟩, 7), (⟨"HoarseHill$Planning", "giveBreathsBack", "(I)V"⟩, 7)]
theorem lw_r1 : ∀ q ∈ lw_privs_1, lw_okq q := List.forall_mem_cons.mpr ⟨lw_p0, List.forall_mem_cons.mpr ⟨lw_p1, List.forall_mem_cons.mpr ⟨lw_p2, List.forall_mem_cons.mpr ⟨lw_p3, List.forall_mem_cons.mpr ⟨lw_p4, List.forall_mem_cons.mpr ⟨lw_p5, List.forall_mem_cons.mpr ⟨lw_p6, List.forall_mem_cons.mpr ⟨lw_p7, List.forall_mem_cons.mpr ⟨lw_p8, List.forall_mem_cons.mpr ⟨lw_p9, List.forall_mem_cons.mpr ⟨lw_p10, List.forall_mem_cons.mpr ⟨lw_p11, List.forall_mem_cons.mpr ⟨lw_p12, List.forall_mem_cons.mpr ⟨lw_p13, List.forall_mem_cons.mpr ⟨lw_p14, List.forall_mem_cons.mpr ⟨lw_p15, fun _ h => absurd h List.not_mem_nil⟩⟩⟩⟩⟩⟩⟩⟩⟩⟩⟩⟩⟩⟩⟩⟩
theorem lw_p16 : lw_okq (⟨"HoarseHill$Foretelling", "carriedInOrder", "(II)I"⟩, 3) := ⟨⟨by decide +kernel, by decide +kernel⟩, List.mem_of_getElem? (i := 146) (by decide +kernel), List.mem_of_getElem? (i := 604) (by decide +kernel), List.mem_of_getElem? (i := 605) (by decide +kernel)⟩
theorem lw_p17 : lw_okq (⟨"HoarseHill$Foretelling", "give", "(I)I"⟩, 3) := ⟨⟨by decide +kernel, by decide +kernel⟩, List.mem_of_getElem? (i := 146) (by decide +kernel), List.mem_of_getElem? (i := 616) (by decide +kernel), List.mem_of_getElem? (i := 617) (by decide +kernel)⟩
theorem lw_p18 : lw_okq (⟨"HoarseHill$Matching", "comesAbout", "(III)I"⟩, 3) := ⟨⟨by decide +kernel, by decide +kernel⟩, List.mem_of_getElem? (i := 190) (by decide +kernel), List.mem_of_getElem? (i := 656) (by decide +kernel), List.mem_of_getElem? (i := 657) (by decide +kernel)⟩
theorem lw_p19 : lw_okq (⟨"HoarseHill$Foretelling", "catchColds", "(II)I"⟩, 3) := ⟨⟨by decide +kernel, by decide +kernel⟩, List.mem_of_getElem? (i := 146) (by decide +kernel), List.mem_of_getElem? (i := 686) (by decide +kernel), List.mem_of_getElem? (i := 687) (by decide +kernel)⟩
theorem lw_p20 : lw_okq (⟨"HoarseHill$Foretelling", "breathOfAll", "()I"⟩, 3) := ⟨⟨by decide +kernel, by decide +kernel⟩, List.mem_of_getElem? (i := 146) (by decide +kernel), List.mem_of_getElem? (i := 705) (by decide +kernel), List.mem_of_getElem? (i := 706) (by decide +kernel)⟩
theorem lw_p21 : lw_okq (⟨"HoarseHill", "imageOf", "(I)LHoarseHill$Hill;"⟩, 13) := ⟨⟨by decide +kernel, by decide +kernel⟩, List.mem_of_getElem? (i := 15) (by decide +kernel), List.mem_of_getElem? (i := 713) (by decide +kernel), List.mem_of_getElem? (i := 714) (by decide +kernel)⟩
theorem lw_p22 : lw_okq (⟨"HoarseHill$Asks", "begin", "(I)V"⟩, 4) := ⟨⟨by decide +kernel, by decide +kernel⟩, List.mem_of_getElem? (i := 206) (by decide +kernel), List.mem_of_getElem? (i := 740) (by decide +kernel), List.mem_of_getElem? (i := 741) (by decide +kernel)⟩
theorem lw_p23 : lw_okq (⟨"HoarseHill$Asks", "isMild", "()Z"⟩, 4) := ⟨⟨by decide +kernel, by decide +kernel⟩, List.mem_of_getElem? (i := 206) (by decide +kernel), List.mem_of_getElem? (i := 744) (by decide +kernel), List.mem_of_getElem? (i := 745) (by decide +kernel)⟩
theorem lw_p24 : lw_okq (⟨"HoarseHill$Asks", "mildSize", "()I"⟩, 4) := ⟨⟨by decide +kernel, by decide +kernel⟩, List.mem_of_getElem? (i := 206) (by decide +kernel), List.mem_of_getElem? (i := 749) (by decide +kernel), List.mem_of_getElem? (i := 750) (by decide +kernel)⟩
theorem lw_p25 : lw_okq (⟨"HoarseHill$Asks", "leave", "(I)V"⟩, 4) := ⟨⟨by decide +kernel, by decide +kernel⟩, List.mem_of_getElem? (i := 206) (by decide +kernel), List.mem_of_getElem? (i := 753) (by decide +kernel), List.mem_of_getElem? (i := 754) (by decide +kernel)⟩
theorem lw_p26 : lw_okq (⟨"HoarseHill$Asks", "sizeOfAnyMild", "()I"⟩, 4) := ⟨⟨by decide +kernel, by decide +kernel⟩, List.mem_of_getElem? (i := 206) (by decide +kernel), List.mem_of_getElem? (i := 757) (by decide +kernel), List.mem_of_getElem? (i := 758) (by decide +kernel)⟩
theorem lw_p27 : lw_okq (⟨"HoarseHill$Asks", "lentSize", "()I"⟩, 4) := ⟨⟨by decide +kernel, by decide +kernel⟩, List.mem_of_getElem? (i := 206) (by decide +kernel), List.mem_of_getElem? (i := 761) (by decide +kernel), List.mem_of_getElem? (i := 762) (by decide +kernel)⟩
theorem lw_p28 : lw_okq (⟨"HoarseHill$Asks", "plainSize", "()I"⟩, 4) := ⟨⟨by decide +kernel, by decide +kernel⟩, List.mem_of_getElem? (i := 206) (by decide +kernel), List.mem_of_getElem? (i := 765) (by decide +kernel), List.mem_of_getElem? (i := 766) (by decide +kernel)⟩
theorem lw_p29 : lw_okq (⟨"HoarseHill$Asks", "sizeOfAnyPlain", "()I"⟩, 4) := ⟨⟨by decide +kernel, by decide +kernel⟩, List.mem_of_getElem? (i := 206) (by decide +kernel), List.mem_of_getElem? (i := 769) (by decide +kernel), List.mem_of_getElem? (i := 770) (by decide +kernel)⟩
theorem lw_p30 : lw_okq (⟨"HoarseHill$Asks", "plainMark", "()I"⟩, 4) := ⟨⟨by decide +kernel, by decide +kernel⟩, List.mem_of_getElem? (i := 206) (by decide +kernel), List.mem_of_getElem? (i := 773) (by decide +kernel), List.mem_of_getElem? (i := 774) (by decide +kernel)⟩
theorem lw_p31 : lw_okq (⟨"HoarseHill$Asks", "markOfAnyPlain", "()I"⟩, 4) := ⟨⟨by decide +kernel, by decide +kernel⟩, List.mem_of_getElem? (i := 206) (by decide +kernel), List.mem_of_getElem? (i := 777) (by decide +kernel), List.mem_of_getElem? (i := 778) (by decide +kernel)⟩
def lw_privs_2 : List (MethodName × Nat) := [(⟨"HoarseHill$Foretelling", "carriedInOrder", "(II)I"⟩, 3), (⟨"HoarseHill$Foretelling", "give", "(I)I"⟩, 3), (⟨"HoarseHill$Matching", "comesAbout", "(III)I"⟩, 3), (⟨"HoarseHill$Foretelling", "catchColds", "(II)I"⟩, 3), (⟨"HoarseHill$Foretelling", "breathOfAll", "()I"⟩, 3), (⟨"HoarseHill", "imageOf", "(I)LHoarseHill$Hill;"⟩, 13), (⟨"HoarseHill$Asks", "begin", "(I)V"⟩, 4), (⟨"HoarseHill$Asks", "isMild", "()Z"⟩, 4), (⟨"HoarseHill$Asks", "mildSize", "()I"⟩, 4), (⟨"HoarseHill$Asks", "leave", "(I)V"⟩, 4), (⟨"HoarseHill$Asks", "sizeOfAnyMild", "()I"⟩, 4), (⟨"HoarseHill$Asks", "lentSize", "()I"⟩, 4), (⟨"HoarseHill$Asks", "plainSize", "()I"⟩, 4), (⟨"HoarseHill$Asks", "sizeOfAnyPlain", "()I"⟩, 4), (⟨"HoarseHill$Asks", "plainMark", "()I"⟩, 4), (⟨"HoarseHill$Asks", "markOfAnyPlain", "()I"⟩, 4)]
theorem lw_r2 : ∀ q ∈ lw_privs_2, lw_okq q := List.forall_mem_cons.mpr ⟨lw_p16, List.forall_mem_cons.mpr ⟨lw_p17, List.forall_mem_cons.mpr ⟨lw_p18, List.forall_mem_cons.mpr ⟨lw_p19, List.forall_mem_cons.mpr ⟨lw_p20, List.forall_mem_cons.mpr ⟨lw_p21, List.forall_mem_cons.mpr ⟨lw_p22, List.forall_mem_cons.mpr ⟨lw_p23, List.forall_mem_cons.mpr ⟨lw_p24, List.forall_mem_cons.mpr ⟨lw_p25, List.forall_mem_cons.mpr ⟨lw_p26, List.forall_mem_cons.mpr ⟨lw_p27, List.forall_mem_cons.mpr ⟨lw_p28, List.forall_mem_cons.mpr ⟨lw_p29, List.forall_mem_cons.mpr ⟨lw_p30, List.forall_mem_cons.mpr ⟨lw_p31, fun _ h => absurd h List.not_mem_nil⟩⟩⟩⟩⟩⟩⟩⟩⟩⟩⟩⟩⟩⟩⟩⟩
theorem lw_p32 : lw_okq (⟨"HoarseHill$Asks", "lentMark", "()I"⟩, 4) := ⟨⟨by decide +kernel, by decide +kernel⟩, List.mem_of_getElem? (i := 206) (by decide +kernel), List.mem_of_getElem? (i := 781) (by decide +kernel), List.mem_of_getElem? (i := 782) (by decide +kernel)⟩
theorem lw_p33 : lw_okq (⟨"HoarseHill$Asks", "mildMark", "()I"⟩, 4) := ⟨⟨by decide +kernel, by decide +kernel⟩, List.mem_of_getElem? (i := 206) (by decide +kernel), List.mem_of_getElem? (i := 789) (by decide +kernel), List.mem_of_getElem? (i := 790) (by decide +kernel)⟩
theorem lw_p34 : lw_okq (⟨"HoarseHillModel", "find", "(I)I"⟩, 19) := ⟨⟨by decide +kernel, by decide +kernel⟩, List.mem_of_getElem? (i := 814) (by decide +kernel), List.mem_of_getElem? (i := 892) (by decide +kernel), List.mem_of_getElem? (i := 893) (by decide +kernel)⟩
theorem lw_p35 : lw_okq (⟨"HoarseHillModel", "well", "(I)I"⟩, 19) := ⟨⟨by decide +kernel, by decide +kernel⟩, List.mem_of_getElem? (i := 814) (by decide +kernel), List.mem_of_getElem? (i := 897) (by decide +kernel), List.mem_of_getElem? (i := 898) (by decide +kernel)⟩
theorem lw_p36 : lw_okq (⟨"HoarseHillModel", "isSpan", "(III)Z"⟩, 19) := ⟨⟨by decide +kernel, by decide +kernel⟩, List.mem_of_getElem? (i := 814) (by decide +kernel), List.mem_of_getElem? (i := 912) (by decide +kernel), List.mem_of_getElem? (i := 913) (by decide +kernel)⟩
theorem lw_p37 : lw_okq (⟨"HoarseHillModel", "reads", "()Z"⟩, 19) := ⟨⟨by decide +kernel, by decide +kernel⟩, List.mem_of_getElem? (i := 814) (by decide +kernel), List.mem_of_getElem? (i := 930) (by decide +kernel), List.mem_of_getElem? (i := 931) (by decide +kernel)⟩
theorem lw_p38 : lw_okq (⟨"HoarseHillModel", "readsLaw", "()Z"⟩, 19) := ⟨⟨by decide +kernel, by decide +kernel⟩, List.mem_of_getElem? (i := 814) (by decide +kernel), List.mem_of_getElem? (i := 934) (by decide +kernel), List.mem_of_getElem? (i := 935) (by decide +kernel)⟩
theorem lw_p39 : lw_okq (⟨"HoarseHillModel", "sign", "(I)Z"⟩, 19) := ⟨⟨by decide +kernel, by decide +kernel⟩, List.mem_of_getElem? (i := 814) (by decide +kernel), List.mem_of_getElem? (i := 938) (by decide +kernel), List.mem_of_getElem? (i := 939) (by decide +kernel)⟩
theorem lw_p40 : lw_okq (⟨"HoarseHillModel", "isLetter", "(I)Z"⟩, 19) := ⟨⟨by decide +kernel, by decide +kernel⟩, List.mem_of_getElem? (i := 814) (by decide +kernel), List.mem_of_getElem? (i := 942) (by decide +kernel), List.mem_of_getElem? (i := 943) (by decide +kernel)⟩
theorem lw_p41 : lw_okq (⟨"HoarseHillModel", "refuse", "(I)Z"⟩, 19) := ⟨⟨by decide +kernel, by decide +kernel⟩, List.mem_of_getElem? (i := 814) (by decide +kernel), List.mem_of_getElem? (i := 946) (by decide +kernel), List.mem_of_getElem? (i := 947) (by decide +kernel)⟩
theorem lw_p42 : lw_okq (⟨"HoarseHillModel", "readsNumber", "(II)Z"⟩, 19) := ⟨⟨by decide +kernel, by decide +kernel⟩, List.mem_of_getElem? (i := 814) (by decide +kernel), List.mem_of_getElem? (i := 950) (by decide +kernel), List.mem_of_getElem? (i := 951) (by decide +kernel)⟩
theorem lw_p43 : lw_okq (⟨"HoarseHillModel", "isFigure", "(I)Z"⟩, 19) := ⟨⟨by decide +kernel, by decide +kernel⟩, List.mem_of_getElem? (i := 814) (by decide +kernel), List.mem_of_getElem? (i := 954) (by decide +kernel), List.mem_of_getElem? (i := 955) (by decide +kernel)⟩
theorem lw_p44 : lw_okq (⟨"HoarseHillModel", "readsMotion", "()Z"⟩, 19) := ⟨⟨by decide +kernel, by decide +kernel⟩, List.mem_of_getElem? (i := 814) (by decide +kernel), List.mem_of_getElem? (i := 960) (by decide +kernel), List.mem_of_getElem? (i := 961) (by decide +kernel)⟩
theorem lw_p45 : lw_okq (⟨"HoarseHillModel", "isSort", "()Z"⟩, 19) := ⟨⟨by decide +kernel, by decide +kernel⟩, List.mem_of_getElem? (i := 814) (by decide +kernel), List.mem_of_getElem? (i := 964) (by decide +kernel), List.mem_of_getElem? (i := 965) (by decide +kernel)⟩
theorem lw_p46 : lw_okq (⟨"HoarseHillModel", "readsMember", "()Z"⟩, 19) := ⟨⟨by decide +kernel, by decide +kernel⟩, List.mem_of_getElem? (i := 814) (by decide +kernel), List.mem_of_getElem? (i := 971) (by decide +kernel), List.mem_of_getElem? (i := 972) (by decide +kernel)⟩
theorem lw_p47 : lw_okq (⟨"HoarseHillModel", "copyTown", "(II)V"⟩, 19) := ⟨⟨by decide +kernel, by decide +kernel⟩, List.mem_of_getElem? (i := 814) (by decide +kernel), List.mem_of_getElem? (i := 976) (by decide +kernel), List.mem_of_getElem? (i := 977) (by decide +kernel)⟩
def lw_privs_3 : List (MethodName × Nat) := [(⟨"HoarseHill$Asks", "lentMark", "()I"⟩, 4), (⟨"HoarseHill$Asks", "mildMark", "()I"⟩, 4), (⟨"HoarseHillModel", "find", "(I)I"⟩, 19), (⟨"HoarseHillModel", "well", "(I)I"⟩, 19), (⟨"HoarseHillModel", "isSpan", "(III)Z"⟩, 19), (⟨"HoarseHillModel", "reads", "()Z"⟩, 19), (⟨"HoarseHillModel", "readsLaw", "()Z"⟩, 19), (⟨"HoarseHillModel", "sign", "(I)Z"⟩, 19), (⟨"HoarseHillModel", "isLetter", "(I)Z"⟩, 19), (⟨"HoarseHillModel", "refuse", "(I)Z"⟩, 19), (⟨"HoarseHillModel", "readsNumber", "(II)Z"⟩, 19), (⟨"HoarseHillModel", "isFigure", "(I)Z"⟩, 19), (⟨"HoarseHillModel", "readsMotion", "()Z"⟩, 19), (⟨"HoarseHillModel", "isSort", "()Z"⟩, 19), (⟨"HoarseHillModel", "readsMember", "()Z"⟩, 19), (⟨"HoarseHillModel", "copyTown", "(II)V"⟩, 19)]
theorem lw_r3 : ∀ q ∈ lw_privs_3, lw_okq q := List.forall_mem_cons.mpr ⟨lw_p32, List.forall_mem_cons.mpr ⟨lw_p33, List.forall_mem_cons.mpr ⟨lw_p34, List.forall_mem_cons.mpr ⟨lw_p35, List.forall_mem_cons.mpr ⟨lw_p36, List.forall_mem_cons.mpr ⟨lw_p37, List.forall_mem_cons.mpr ⟨lw_p38, List.forall_mem_cons.mpr ⟨lw_p39, List.forall_mem_cons.mpr ⟨lw_p40, List.forall_mem_cons.mpr ⟨lw_p41, List.forall_mem_cons.mpr ⟨lw_p42, List.forall_mem_cons.mpr ⟨lw_p43, List.forall_mem_cons.mpr ⟨lw_p44, List.forall_mem_cons.mpr ⟨lw_p45, List.forall_mem_cons.mpr ⟨lw_p46, List.forall_mem_cons.mpr ⟨lw_p47, fun _ h => absurd h List.not_mem_nil⟩⟩⟩⟩⟩⟩⟩⟩⟩⟩⟩⟩⟩⟩⟩⟩
theorem lw_p48 : lw_okq (⟨"HoarseHillModel", "areMembers", "(I)Z"⟩, 19) := ⟨⟨by decide +kernel, by decide +kernel⟩, List.mem_of_getElem? (i := 814) (by decide +kernel), List.mem_of_getElem? (i := 993) (by decide +kernel), List.mem_of_getElem? (i := 994) (by decide +kernel)⟩
theorem lw_p49 : lw_okq (⟨"HoarseHillModel", "canSpeak", "(I)I"⟩, 19) := ⟨⟨by decide +kernel, by decide +kernel⟩, List.mem_of_getElem? (i := 814) (by decide +kernel), List.mem_of_getElem? (i := 997) (by decide +kernel), List.mem_of_getElem? (i := 998) (by decide +kernel)⟩
theorem lw_p50 : lw_okq (⟨"HoarseHillModel", "costOf", "(II)I"⟩, 19) := ⟨⟨by decide +kernel, by decide +kernel⟩, List.mem_of_getElem? (i := 814) (by decide +kernel), List.mem_of_getElem? (i := 1001) (by decide +kernel), List.mem_of_getElem? (i := 1002) (by decide +kernel)⟩
theorem lw_p51 : lw_okq (⟨"HoarseHillModel", "keepPast", "()V"⟩, 19) := ⟨⟨by decide +kernel, by decide +kernel⟩, List.mem_of_getElem? (i := 814) (by decide +kernel), List.mem_of_getElem? (i := 1008) (by decide +kernel), List.mem_of_getElem? (i := 1009) (by decide +kernel)⟩
theorem lw_p52 : lw_okq (⟨"HoarseHillModel", "pass", "(II)I"⟩, 19) := ⟨⟨by decide +kernel, by decide +kernel⟩, List.mem_of_getElem? (i := 814) (by decide +kernel), List.mem_of_getElem? (i := 1012) (by decide +kernel), List.mem_of_getElem? (i := 1013) (by decide +kernel)⟩
theorem lw_p53 : lw_okq (⟨"HoarseHillModel", "motionOf", "(I)I"⟩, 19) := ⟨⟨by decide +kernel, by decide +kernel⟩, List.mem_of_getElem? (i := 814) (by decide +kernel), List.mem_of_getElem? (i := 1016) (by decide +kernel), List.mem_of_getElem? (i := 1017) (by decide +kernel)⟩
theorem lw_p54 : lw_okq (⟨"HoarseHillModel", "passFor", "(III)I"⟩, 19) := ⟨⟨by decide +kernel, by decide +kernel⟩, List.mem_of_getElem? (i := 814) (by decide +kernel), List.mem_of_getElem? (i := 1020) (by decide +kernel), List.mem_of_getElem? (i := 1021) (by decide +kernel)⟩
theorem lw_p55 : lw_okq (⟨"HoarseHillModel", "weightOf", "(II)I"⟩, 19) := ⟨⟨by decide +kernel, by decide +kernel⟩, List.mem_of_getElem? (i := 814) (by decide +kernel), List.mem_of_getElem? (i := 1024) (by decide +kernel), List.mem_of_getElem? (i := 1025) (by decide +kernel)⟩
theorem lw_p56 : lw_okq (⟨"HoarseHillModel", "weighs", "(II)I"⟩, 19) := ⟨⟨by decide +kernel, by decide +kernel⟩, List.mem_of_getElem? (i := 814) (by decide +kernel), List.mem_of_getElem? (i := 1031) (by decide +kernel), List.mem_of_getElem? (i := 1032) (by decide +kernel)⟩
theorem lw_p57 : lw_okq (⟨"HoarseHillModel", "isMember", "(I)Z"⟩, 19) := ⟨⟨by decide +kernel, by decide +kernel⟩, List.mem_of_getElem? (i := 814) (by decide +kernel), List.mem_of_getElem? (i := 1045) (by decide +kernel), List.mem_of_getElem? (i := 1046) (by decide +kernel)⟩
theorem lw_p58 : lw_okq (⟨"HoarseHillModel", "isMotion", "(I)Z"⟩, 19) := ⟨⟨by decide +kernel, by decide +kernel⟩, List.mem_of_getElem? (i := 814) (by decide +kernel), List.mem_of_getElem? (i := 1058) (by decide +kernel), List.mem_of_getElem? (i := 1059) (by decide +kernel)⟩
theorem lw_p59 : lw_okq (⟨"HoarseHillModel", "isCarried", "(II)Z"⟩, 19) := ⟨⟨by decide +kernel, by decide +kernel⟩, List.mem_of_getElem? (i := 814) (by decide +kernel), List.mem_of_getElem? (i := 1090) (by decide +kernel), List.mem_of_getElem? (i := 1091) (by decide +kernel)⟩
theorem lw_p60 : lw_okq (⟨"HoarseHillModel", "mostCarried", "(I)I"⟩, 19) := ⟨⟨by decide +kernel, by decide +kernel⟩, List.mem_of_getElem? (i := 814) (by decide +kernel), List.mem_of_getElem? (i := 1101) (by decide +kernel), List.mem_of_getElem? (i := 1102) (by decide +kernel)⟩
theorem lw_p61 : lw_okq (⟨"HoarseHillModel", "layTried", "()V"⟩, 19) := ⟨⟨by decide +kernel, by decide +kernel⟩, List.mem_of_getElem? (i := 814) (by decide +kernel), List.mem_of_getElem? (i := 1105) (by decide +kernel), List.mem_of_getElem? (i := 1106) (by decide +kernel)⟩
theorem lw_p62 : lw_okq (⟨"HoarseHillModel", "nextSet", "(II)I"⟩, 19) := ⟨⟨by decide +kernel, by decide +kernel⟩, List.mem_of_getElem? (i := 814) (by decide +kernel), List.mem_of_getElem? (i := 1109) (by decide +kernel), List.mem_of_getElem? (i := 1110) (by decide +kernel)⟩
theorem lw_p63 : lw_okq (⟨"HoarseHillModel", "carriedBy", "(I)I"⟩, 19) := ⟨⟨by decide +kernel, by decide +kernel⟩, List.mem_of_getElem? (i := 814) (by decide +kernel), List.mem_of_getElem? (i := 1117) (by decide +kernel), List.mem_of_getElem? (i := 1118) (by decide +kernel)⟩
def lw_privs_4 : List (MethodName × Nat) := [(⟨"HoarseHillModel", "areMembers", "(I)Z"⟩, 19), (⟨"HoarseHillModel", "canSpeak", "(I)I"⟩, 19), (⟨"HoarseHillModel", "costOf", "(II)I"⟩, 19), (⟨"HoarseHillModel", "keepPast", "()V"⟩, 19), (⟨"HoarseHillModel", "pass", "(II)I"⟩, 19), (⟨"HoarseHillModel", "motionOf", "(I)I"⟩, 19), (⟨"HoarseHillModel", "passFor", "(III)I"⟩, 19), (⟨"HoarseHillModel", "weightOf", "(II)I"⟩, 19), (⟨"HoarseHillModel", "weighs", "(II)I"⟩, 19), (⟨"HoarseHillModel", "isMember", "(I)Z"⟩, 19), (⟨"HoarseHillModel", "isMotion", "(I)Z"⟩, 19), (⟨"HoarseHillModel", "isCarried", "(II)Z"⟩, 19), (⟨"HoarseHillModel", "mostCarried", "(I)I"⟩, 19), (⟨"HoarseHillModel", "layTried", "()V"⟩, 19), (⟨"HoarseHillModel", "nextSet", "(II)I"⟩, 19), (⟨"HoarseHillModel", "carriedBy", "(I)I"⟩, 19)]
theorem lw_r4 : ∀ q ∈ lw_privs_4, lw_okq q := List.forall_mem_cons.mpr ⟨lw_p48, List.forall_mem_cons.mpr ⟨lw_p49, List.forall_mem_cons.mpr ⟨lw_p50, List.forall_mem_cons.mpr ⟨lw_p51, List.forall_mem_cons.mpr ⟨lw_p52, List.forall_mem_cons.mpr ⟨lw_p53, List.forall_mem_cons.mpr ⟨lw_p54, List.forall_mem_cons.mpr ⟨lw_p55, List.forall_mem_cons.mpr ⟨lw_p56, List.forall_mem_cons.mpr ⟨lw_p57, List.forall_mem_cons.mpr ⟨lw_p58, List.forall_mem_cons.mpr ⟨lw_p59, List.forall_mem_cons.mpr ⟨lw_p60, List.forall_mem_cons.mpr ⟨lw_p61, List.forall_mem_cons.mpr ⟨lw_p62, List.forall_mem_cons.mpr ⟨lw_p63, fun _ h => absurd h List.not_mem_nil⟩⟩⟩⟩⟩⟩⟩⟩⟩⟩⟩⟩⟩⟩⟩⟩
theorem lw_p64 : lw_okq (⟨"HoarseHillModel", "lozengesIn", "(I)I"⟩, 19) := ⟨⟨by decide +kernel, by decide +kernel⟩, List.mem_of_getElem? (i := 814) (by decide +kernel), List.mem_of_getElem? (i := 1125) (by decide +kernel), List.mem_of_getElem? (i := 1126) (by decide +kernel)⟩
theorem lw_p65 : lw_okq (⟨"HoarseHillModel", "gets", "(II)I"⟩, 19) := ⟨⟨by decide +kernel, by decide +kernel⟩, List.mem_of_getElem? (i := 814) (by decide +kernel), List.mem_of_getElem? (i := 1129) (by decide +kernel), List.mem_of_getElem? (i := 1130) (by decide +kernel)⟩
theorem lw_p66 : lw_okq (⟨"HoarseHillModel", "turns", "(I)Z"⟩, 19) := ⟨⟨by decide +kernel, by decide +kernel⟩, List.mem_of_getElem? (i := 814) (by decide +kernel), List.mem_of_getElem? (i := 1133) (by decide +kernel), List.mem_of_getElem? (i := 1134) (by decide +kernel)⟩
theorem lw_p67 : lw_okq (⟨"HoarseHillModel", "passAll", "(I)I"⟩, 19) := ⟨⟨by decide +kernel, by decide +kernel⟩, List.mem_of_getElem? (i := 814) (by decide +kernel), List.mem_of_getElem? (i := 1142) (by decide +kernel), List.mem_of_getElem? (i := 1143) (by decide +kernel)⟩
theorem lw_p68 : lw_okq (⟨"HoarseHillModel", "noItems", "(III)I"⟩, 19) := ⟨⟨by decide +kernel, by decide +kernel⟩, List.mem_of_getElem? (i := 814) (by decide +kernel), List.mem_of_getElem? (i := 1155) (by decide +kernel), List.mem_of_getElem? (i := 1156) (by decide +kernel)⟩
theorem lw_p69 : lw_okq (⟨"HoarseHillModel", "isSo", "(IIIII)Z"⟩, 19) := ⟨⟨by decide +kernel, by decide +kernel⟩, List.mem_of_getElem? (i := 814) (by decide +kernel), List.mem_of_getElem? (i := 1159) (by decide +kernel), List.mem_of_getElem? (i := 1160) (by decide +kernel)⟩
theorem lw_p70 : lw_okq (⟨"HoarseHillModel", "isOf", "(II)Z"⟩, 19) := ⟨⟨by decide +kernel, by decide +kernel⟩, List.mem_of_getElem? (i := 814) (by decide +kernel), List.mem_of_getElem? (i := 1198) (by decide +kernel), List.mem_of_getElem? (i := 1199) (by decide +kernel)⟩
theorem lw_p71 : lw_okq (⟨"HoarseHillModel", "sizeOf", "(I)I"⟩, 19) := ⟨⟨by decide +kernel, by decide +kernel⟩, List.mem_of_getElem? (i := 814) (by decide +kernel), List.mem_of_getElem? (i := 1206) (by decide +kernel), List.mem_of_getElem? (i := 1207) (by decide +kernel)⟩
theorem lw_p72 : lw_okq (⟨"HoarseHillModel", "begin", "(I)V"⟩, 19) := ⟨⟨by decide +kernel, by decide +kernel⟩, List.mem_of_getElem? (i := 814) (by decide +kernel), List.mem_of_getElem? (i := 1210) (by decide +kernel), List.mem_of_getElem? (i := 1211) (by decide +kernel)⟩
theorem lw_p73 : lw_okq (⟨"HoarseHillModel", "plainSize", "(I)I"⟩, 19) := ⟨⟨by decide +kernel, by decide +kernel⟩, List.mem_of_getElem? (i := 814) (by decide +kernel), List.mem_of_getElem? (i := 1214) (by decide +kernel), List.mem_of_getElem? (i := 1215) (by decide +kernel)⟩
theorem lw_p74 : lw_okq (⟨"HoarseHillModel", "lentSize", "(I)I"⟩, 19) := ⟨⟨by decide +kernel, by decide +kernel⟩, List.mem_of_getElem? (i := 814) (by decide +kernel), List.mem_of_getElem? (i := 1218) (by decide +kernel), List.mem_of_getElem? (i := 1219) (by decide +kernel)⟩
theorem lw_p75 : lw_okq (⟨"HoarseHillModel", "mark", "(I)I"⟩, 19) := ⟨⟨by decide +kernel, by decide +kernel⟩, List.mem_of_getElem? (i := 814) (by decide +kernel), List.mem_of_getElem? (i := 1222) (by decide +kernel), List.mem_of_getElem? (i := 1223) (by decide +kernel)⟩
theorem lw_p76 : lw_okq (⟨"HoarseHillModel", "plainMark", "(I)I"⟩, 19) := ⟨⟨by decide +kernel, by decide +kernel⟩, List.mem_of_getElem? (i := 814) (by decide +kernel), List.mem_of_getElem? (i := 1226) (by decide +kernel), List.mem_of_getElem? (i := 1227) (by decide +kernel)⟩
theorem lw_p77 : lw_okq (⟨"HoarseHillModel", "lentMark", "(I)I"⟩, 19) := ⟨⟨by decide +kernel, by decide +kernel⟩, List.mem_of_getElem? (i := 814) (by decide +kernel), List.mem_of_getElem? (i := 1230) (by decide +kernel), List.mem_of_getElem? (i := 1231) (by decide +kernel)⟩
theorem lw_p78 : lw_okq (⟨"HoarseHillModel", "mildSize", "(I)I"⟩, 19) := ⟨⟨by decide +kernel, by decide +kernel⟩, List.mem_of_getElem? (i := 814) (by decide +kernel), List.mem_of_getElem? (i := 1234) (by decide +kernel), List.mem_of_getElem? (i := 1235) (by decide +kernel)⟩
theorem lw_p79 : lw_okq (⟨"HoarseHillModel", "mildMark", "(I)I"⟩, 19) := ⟨⟨by decide +kernel, by decide +kernel⟩, List.mem_of_getElem? (i := 814) (by decide +kernel), List.mem_of_getElem? (i := 1238) (by decide +kernel), List.mem_of_getElem? (i := 1239) (by decide +kernel)⟩
def lw_privs_5 : List (MethodName × Nat) := [(⟨"HoarseHillModel", "lozengesIn", "(I)I"⟩, 19), (⟨"HoarseHillModel", "gets", "(II)I"⟩, 19), (⟨"HoarseHillModel", "turns", "(I)Z"⟩, 19), (⟨"HoarseHillModel", "passAll", "(I)I"⟩, 19), (⟨"HoarseHillModel", "noItems", "(III)I"⟩, 19), (⟨"HoarseHillModel", "isSo", "(IIIII)Z"⟩, 19), (⟨"HoarseHillModel", "isOf", "(II)Z"⟩, 19), (⟨"HoarseHillModel", "sizeOf", "(I)I"⟩, 19), (⟨"HoarseHillModel", "begin", "(I)V"⟩, 19), (⟨"HoarseHillModel", "plainSize", "(I)I"⟩, 19), (⟨"HoarseHillModel", "lentSize", "(I)I"⟩, 19), (⟨"HoarseHillModel", "mark", "(I)I"⟩, 19), (⟨"HoarseHillModel", "plainMark", "(I)I"⟩, 19), (⟨"HoarseHillModel", "lentMark", "(I)I"⟩, 19), (⟨"HoarseHillModel", "mildSize", "(I)I"⟩, 19), (⟨"HoarseHillModel", "mildMark", "(I)I"⟩, 19)]
theorem lw_r5 : ∀ q ∈ lw_privs_5, lw_okq q := List.forall_mem_cons.mpr ⟨lw_p64, List.forall_mem_cons.mpr ⟨lw_p65, List.forall_mem_cons.mpr ⟨lw_p66, List.forall_mem_cons.mpr ⟨lw_p67, List.forall_mem_cons.mpr ⟨lw_p68, List.forall_mem_cons.mpr ⟨lw_p69, List.forall_mem_cons.mpr ⟨lw_p70, List.forall_mem_cons.mpr ⟨lw_p71, List.forall_mem_cons.mpr ⟨lw_p72, List.forall_mem_cons.mpr ⟨lw_p73, List.forall_mem_cons.mpr ⟨lw_p74, List.forall_mem_cons.mpr ⟨lw_p75, List.forall_mem_cons.mpr ⟨lw_p76, List.forall_mem_cons.mpr ⟨lw_p77, List.forall_mem_cons.mpr ⟨lw_p78, List.forall_mem_cons.mpr ⟨lw_p79, fun _ h => absurd h List.not_mem_nil⟩⟩⟩⟩⟩⟩⟩⟩⟩⟩⟩⟩⟩⟩⟩⟩
def lw_privs : List (MethodName × Nat) := lw_privs_1 ++ (lw_privs_2 ++ (lw_privs_3 ++ (lw_privs_4 ++ (lw_privs_5))))
def lw_tbl : List Cond := k2_sels lw_privs ++ tables_1
theorem lw_privs_ok : ∀ q ∈ lw_privs, lw_okq q := by
  show ∀ q ∈ lw_privs_1 ++ (lw_privs_2 ++ (lw_privs_3 ++ (lw_privs_4 ++ (lw_privs_5)))), lw_okq q
  exact List.forall_mem_append.mpr ⟨lw_r1, List.forall_mem_append.mpr ⟨lw_r2, List.forall_mem_append.mpr ⟨lw_r3, List.forall_mem_append.mpr ⟨lw_r4, lw_r5⟩⟩⟩⟩
-- ===== end of PART A; then your names; then what follows =====
/-! ===== BEGIN printed: names, fields, word lists, decode rows ===== -/
def RX0 : String := "HoarseHill$Acts"
def TX0 : u_T := fun k => match k with
  | 0 => ("HoarseHill$Acts", "before", "[I", true)
  | 1 => ("HoarseHill$Acts", "kept", "I", false)
  | _ => ("HoarseHill$Acts", "next", "I", false)
def tyX0 : Nat → FieldType := fun k => match k with
  | 0 => .array .int
  | 1 => .int
  | _ => .int
abbrev wsX00 : List Cond := u_ws RX0 TX0 3
theorem nmX0 : ∀ a, a < 3 → ∀ b, b < 3 → a ≠ b → (TX0 a).2.1 ≠ (TX0 b).2.1 := by decide +kernel
theorem tyX0_ok : ∀ k, k < 3 → parseFieldDescriptor (TX0 k).2.2.1 = some (tyX0 k) := by decide +kernel
abbrev cX0_init : ByteArray := prog_2_method_1_code
def yX0_init : MethodName := ⟨RX0, "<init>", "()V"⟩
abbrev cX0_forget : ByteArray := prog_2_method_2_code
def yX0_forget : MethodName := ⟨RX0, "forget", "()V"⟩
abbrev cX0_keep : ByteArray := prog_2_method_3_code
def yX0_keep : MethodName := ⟨RX0, "keep", "(LHoarseHill$Hill;)V"⟩
abbrev cX0_giveBack : ByteArray := prog_2_method_4_code
def yX0_giveBack : MethodName := ⟨RX0, "giveBack", "(LHoarseHill$Hill;)V"⟩
def RX1 : String := "HoarseHill$Asks"
def TX1 : u_T := fun k => match k with
  | 0 => ("HoarseHill$Asks", "now", "LHoarseHill$Hill;", true)
  | 1 => ("HoarseHill$Asks", "left", "[I", true)
  | 2 => ("HoarseHill$Asks", "leftCount", "I", false)
  | _ => ("HoarseHill$Asks", "asked", "I", false)
def tyX1 : Nat → FieldType := fun k => match k with
  | 0 => .object "HoarseHill$Hill"
  | 1 => .array .int
  | 2 => .int
  | _ => .int
abbrev wsX10 : List Cond := u_ws RX1 TX1 4
theorem nmX1 : ∀ a, a < 4 → ∀ b, b < 4 → a ≠ b → (TX1 a).2.1 ≠ (TX1 b).2.1 := by decide +kernel
theorem tyX1_ok : ∀ k, k < 4 → parseFieldDescriptor (TX1 k).2.2.1 = some (tyX1 k) := by decide +kernel
abbrev cX1_init : ByteArray := prog_3_method_1_code
def yX1_init : MethodName := ⟨RX1, "<init>", "(LHoarseHill$Hill;)V"⟩
abbrev cX1_sizeOf : ByteArray := prog_3_method_2_code
def yX1_sizeOf : MethodName := ⟨RX1, "sizeOf", "(I)I"⟩
abbrev cX1_markOf : ByteArray := prog_3_method_3_code
def yX1_markOf : MethodName := ⟨RX1, "markOf", "(I)I"⟩
abbrev cX1_traceAt : ByteArray := prog_3_method_4_code
def yX1_traceAt : MethodName := ⟨RX1, "traceAt", "(I)I"⟩
abbrev cX1_begin : ByteArray := prog_3_method_5_code
def yX1_begin : MethodName := ⟨RX1, "begin", "(I)V"⟩
abbrev cX1_leave : ByteArray := prog_3_method_6_code
def yX1_leave : MethodName := ⟨RX1, "leave", "(I)V"⟩
abbrev cX1_isMild : ByteArray := prog_3_method_7_code
def yX1_isMild : MethodName := ⟨RX1, "isMild", "()Z"⟩
abbrev cX1_lentSize : ByteArray := prog_3_method_8_code
def yX1_lentSize : MethodName := ⟨RX1, "lentSize", "()I"⟩
abbrev cX1_lentMark : ByteArray := prog_3_method_9_code
def yX1_lentMark : MethodName := ⟨RX1, "lentMark", "()I"⟩
abbrev cX1_plainSize : ByteArray := prog_3_method_10_code
def yX1_plainSize : MethodName := ⟨RX1, "plainSize", "()I"⟩
abbrev cX1_sizeOfAnyPlain : ByteArray := prog_3_method_11_code
def yX1_sizeOfAnyPlain : MethodName := ⟨RX1, "sizeOfAnyPlain", "()I"⟩
abbrev cX1_plainMark : ByteArray := prog_3_method_12_code
def yX1_plainMark : MethodName := ⟨RX1, "plainMark", "()I"⟩
abbrev cX1_markOfAnyPlain : ByteArray := prog_3_method_13_code
def yX1_markOfAnyPlain : MethodName := ⟨RX1, "markOfAnyPlain", "()I"⟩
abbrev cX1_mildSize : ByteArray := prog_3_method_14_code
def yX1_mildSize : MethodName := ⟨RX1, "mildSize", "()I"⟩
abbrev cX1_sizeOfAnyMild : ByteArray := prog_3_method_15_code
def yX1_sizeOfAnyMild : MethodName := ⟨RX1, "sizeOfAnyMild", "()I"⟩
abbrev cX1_mildMark : ByteArray := prog_3_method_16_code
def yX1_mildMark : MethodName := ⟨RX1, "mildMark", "()I"⟩
def RX2 : String := "HoarseHill$Foretelling"
def TX2 : u_T := fun k => match k with
  | 0 => ("HoarseHill$Foretelling", "now", "LHoarseHill$Hill;", true)
  | 1 => ("HoarseHill$Foretelling", "told", "LHoarseHill$Hill;", true)
  | _ => ("HoarseHill$Foretelling", "saidOn", "[I", true)
def tyX2 : Nat → FieldType := fun k => match k with
  | 0 => .object "HoarseHill$Hill"
  | 1 => .object "HoarseHill$Hill"
  | _ => .array .int
abbrev wsX20 : List Cond := u_ws RX2 TX2 3
theorem nmX2 : ∀ a, a < 3 → ∀ b, b < 3 → a ≠ b → (TX2 a).2.1 ≠ (TX2 b).2.1 := by decide +kernel
theorem tyX2_ok : ∀ k, k < 3 → parseFieldDescriptor (TX2 k).2.2.1 = some (tyX2 k) := by decide +kernel
abbrev cX2_init : ByteArray := prog_4_method_1_code
def yX2_init : MethodName := ⟨RX2, "<init>", "(LHoarseHill$Hill;LHoarseHill$Hill;)V"⟩
abbrev cX2_powerOf : ByteArray := prog_4_method_2_code
def yX2_powerOf : MethodName := ⟨RX2, "powerOf", "(II)I"⟩
abbrev cX2_ordersOf : ByteArray := prog_4_method_3_code
def yX2_ordersOf : MethodName := ⟨RX2, "ordersOf", "(I)I"⟩
abbrev cX2_fewestSpeakers : ByteArray := prog_4_method_4_code
def yX2_fewestSpeakers : MethodName := ⟨RX2, "fewestSpeakers", "(I)I"⟩
abbrev cX2_bestAgenda : ByteArray := prog_4_method_5_code
def yX2_bestAgenda : MethodName := ⟨RX2, "bestAgenda", "(I)I"⟩
abbrev cX2_digit : ByteArray := prog_4_method_6_code
def yX2_digit : MethodName := ⟨RX2, "digit", "(III)I"⟩
abbrev cX2_isOrder : ByteArray := prog_4_method_7_code
def yX2_isOrder : MethodName := ⟨RX2, "isOrder", "(II)Z"⟩
abbrev cX2_carriedInOrder : ByteArray := prog_4_method_8_code
def yX2_carriedInOrder : MethodName := ⟨RX2, "carriedInOrder", "(II)I"⟩
abbrev cX2_fewestLozenges : ByteArray := prog_4_method_9_code
def yX2_fewestLozenges : MethodName := ⟨RX2, "fewestLozenges", "(I)I"⟩
abbrev cX2_give : ByteArray := prog_4_method_10_code
def yX2_give : MethodName := ⟨RX2, "give", "(I)I"⟩
abbrev cX2_breathLater : ByteArray := prog_4_method_11_code
def yX2_breathLater : MethodName := ⟨RX2, "breathLater", "(II)I"⟩
abbrev cX2_carriedLater : ByteArray := prog_4_method_12_code
def yX2_carriedLater : MethodName := ⟨RX2, "carriedLater", "(I)I"⟩
abbrev cX2_carriedInColds : ByteArray := prog_4_method_13_code
def yX2_carriedInColds : MethodName := ⟨RX2, "carriedInColds", "(II)I"⟩
abbrev cX2_catchColds : ByteArray := prog_4_method_14_code
def yX2_catchColds : MethodName := ⟨RX2, "catchColds", "(II)I"⟩
abbrev cX2_sessions : ByteArray := prog_4_method_15_code
def yX2_sessions : MethodName := ⟨RX2, "sessions", "(III)I"⟩
abbrev cX2_breathOfAll : ByteArray := prog_4_method_16_code
def yX2_breathOfAll : MethodName := ⟨RX2, "breathOfAll", "()I"⟩
def RX3 : String := "HoarseHill$Hill"
def TX3 : u_T := fun k => match k with
  | 0 => ("HoarseHill$Hill", "stands", "Z", false)
  | 1 => ("HoarseHill$Hill", "cost", "I", false)
  | 2 => ("HoarseHill$Hill", "motions", "I", false)
  | 3 => ("HoarseHill$Hill", "members", "I", false)
  | 4 => ("HoarseHill$Hill", "day", "I", false)
  | 5 => ("HoarseHill$Hill", "carriedInAll", "I", false)
  | 6 => ("HoarseHill$Hill", "needs", "[I", true)
  | 7 => ("HoarseHill$Hill", "kinds", "[I", true)
  | 8 => ("HoarseHill$Hill", "breaths", "[I", true)
  | _ => ("HoarseHill$Hill", "mends", "[I", true)
def tyX3 : Nat → FieldType := fun k => match k with
  | 0 => .boolean
  | 1 => .int
  | 2 => .int
  | 3 => .int
  | 4 => .int
  | 5 => .int
  | 6 => .array .int
  | 7 => .array .int
  | 8 => .array .int
  | _ => .array .int
abbrev wsX30 : List Cond := u_ws RX3 TX3 10
theorem nmX3 : ∀ a, a < 10 → ∀ b, b < 10 → a ≠ b → (TX3 a).2.1 ≠ (TX3 b).2.1 := by decide +kernel
theorem tyX3_ok : ∀ k, k < 10 → parseFieldDescriptor (TX3 k).2.2.1 = some (tyX3 k) := by decide +kernel
abbrev cX3_init : ByteArray := prog_5_method_1_code
def yX3_init : MethodName := ⟨RX3, "<init>", "()V"⟩
abbrev cX3_clear : ByteArray := prog_5_method_2_code
def yX3_clear : MethodName := ⟨RX3, "clear", "()V"⟩
abbrev cX3_become : ByteArray := prog_5_method_3_code
def yX3_become : MethodName := ⟨RX3, "become", "(LHoarseHill$Hill;)V"⟩
abbrev cX3_hasMember : ByteArray := prog_5_method_4_code
def yX3_hasMember : MethodName := ⟨RX3, "hasMember", "(I)Z"⟩
abbrev cX3_hasMotion : ByteArray := prog_5_method_5_code
def yX3_hasMotion : MethodName := ⟨RX3, "hasMotion", "(I)Z"⟩
abbrev cX3_isSet : ByteArray := prog_5_method_6_code
def yX3_isSet : MethodName := ⟨RX3, "isSet", "(I)Z"⟩
abbrev cX3_addMotion : ByteArray := prog_5_method_7_code
def yX3_addMotion : MethodName := ⟨RX3, "addMotion", "(I)V"⟩
abbrev cX3_addMember : ByteArray := prog_5_method_8_code
def yX3_addMember : MethodName := ⟨RX3, "addMember", "(III)V"⟩
abbrev cX3_costOf : ByteArray := prog_5_method_9_code
def yX3_costOf : MethodName := ⟨RX3, "costOf", "(I)I"⟩
abbrev cX3_ableSet : ByteArray := prog_5_method_10_code
def yX3_ableSet : MethodName := ⟨RX3, "ableSet", "()I"⟩
abbrev cX3_weighs : ByteArray := prog_5_method_11_code
def yX3_weighs : MethodName := ⟨RX3, "weighs", "(II)I"⟩
abbrev cX3_weighsSet : ByteArray := prog_5_method_12_code
def yX3_weighsSet : MethodName := ⟨RX3, "weighsSet", "(II)I"⟩
abbrev cX3_needToday : ByteArray := prog_5_method_13_code
def yX3_needToday : MethodName := ⟨RX3, "needToday", "()I"⟩
abbrev cX3_isCarriedBy : ByteArray := prog_5_method_14_code
def yX3_isCarriedBy : MethodName := ⟨RX3, "isCarriedBy", "(II)Z"⟩
abbrev cX3_isCarriedByAll : ByteArray := prog_5_method_15_code
def yX3_isCarriedByAll : MethodName := ⟨RX3, "isCarriedByAll", "()Z"⟩
abbrev cX3_passDay : ByteArray := prog_5_method_16_code
def yX3_passDay : MethodName := ⟨RX3, "passDay", "(II)I"⟩
abbrev cX3_passDays : ByteArray := prog_5_method_17_code
def yX3_passDays : MethodName := ⟨RX3, "passDays", "(I)I"⟩
def RX4 : String := "HoarseHill$Matching"
def TX4 : u_T := fun k => match k with
  | 0 => ("HoarseHill$Matching", "now", "LHoarseHill$Hill;", true)
  | 1 => ("HoarseHill$Matching", "told", "LHoarseHill$Hill;", true)
  | _ => ("HoarseHill$Matching", "rows", "LHoarseHill$Rows;", true)
def tyX4 : Nat → FieldType := fun k => match k with
  | 0 => .object "HoarseHill$Hill"
  | 1 => .object "HoarseHill$Hill"
  | _ => .object "HoarseHill$Rows"
abbrev wsX40 : List Cond := u_ws RX4 TX4 3
theorem nmX4 : ∀ a, a < 3 → ∀ b, b < 3 → a ≠ b → (TX4 a).2.1 ≠ (TX4 b).2.1 := by decide +kernel
theorem tyX4_ok : ∀ k, k < 3 → parseFieldDescriptor (TX4 k).2.2.1 = some (tyX4 k) := by decide +kernel
abbrev cX4_init : ByteArray := prog_6_method_1_code
def yX4_init : MethodName := ⟨RX4, "<init>", "(LHoarseHill$Hill;LHoarseHill$Hill;LHoarseHill$Rows;)V"⟩
abbrev cX4_breathsOf : ByteArray := prog_6_method_2_code
def yX4_breathsOf : MethodName := ⟨RX4, "breathsOf", "(IIII)I"⟩
abbrev cX4_sortsOf : ByteArray := prog_6_method_3_code
def yX4_sortsOf : MethodName := ⟨RX4, "sortsOf", "(IIII)I"⟩
abbrev cX4_costsOf : ByteArray := prog_6_method_4_code
def yX4_costsOf : MethodName := ⟨RX4, "costsOf", "(III)I"⟩
abbrev cX4_comesAbout : ByteArray := prog_6_method_5_code
def yX4_comesAbout : MethodName := ⟨RX4, "comesAbout", "(III)I"⟩
def RX5 : String := "HoarseHill$Planning"
def TX5 : u_T := fun k => match k with
  | 0 => ("HoarseHill$Planning", "now", "LHoarseHill$Hill;", true)
  | 1 => ("HoarseHill$Planning", "told", "LHoarseHill$Hill;", true)
  | 2 => ("HoarseHill$Planning", "breathsAhead", "[I", true)
  | 3 => ("HoarseHill$Planning", "path", "[I", true)
  | 4 => ("HoarseHill$Planning", "best", "[I", true)
  | 5 => ("HoarseHill$Planning", "days", "I", false)
  | _ => ("HoarseHill$Planning", "most", "I", false)
def tyX5 : Nat → FieldType := fun k => match k with
  | 0 => .object "HoarseHill$Hill"
  | 1 => .object "HoarseHill$Hill"
  | 2 => .array .int
  | 3 => .array .int
  | 4 => .array .int
  | 5 => .int
  | _ => .int
abbrev wsX50 : List Cond := u_ws RX5 TX5 7
theorem nmX5 : ∀ a, a < 7 → ∀ b, b < 7 → a ≠ b → (TX5 a).2.1 ≠ (TX5 b).2.1 := by decide +kernel
theorem tyX5_ok : ∀ k, k < 7 → parseFieldDescriptor (TX5 k).2.2.1 = some (tyX5 k) := by decide +kernel
abbrev cX5_init : ByteArray := prog_7_method_1_code
def yX5_init : MethodName := ⟨RX5, "<init>", "(LHoarseHill$Hill;LHoarseHill$Hill;)V"⟩
abbrev cX5_bestDays : ByteArray := prog_7_method_2_code
def yX5_bestDays : MethodName := ⟨RX5, "bestDays", "(II)I"⟩
abbrev cX5_tryDay : ByteArray := prog_7_method_3_code
def yX5_tryDay : MethodName := ⟨RX5, "tryDay", "(II)V"⟩
abbrev cX5_closePlan : ByteArray := prog_7_method_4_code
def yX5_closePlan : MethodName := ⟨RX5, "closePlan", "(II)V"⟩
abbrev cX5_takePath : ByteArray := prog_7_method_5_code
def yX5_takePath : MethodName := ⟨RX5, "takePath", "(II)V"⟩
abbrev cX5_keepBreaths : ByteArray := prog_7_method_6_code
def yX5_keepBreaths : MethodName := ⟨RX5, "keepBreaths", "(I)V"⟩
abbrev cX5_giveBreathsBack : ByteArray := prog_7_method_7_code
def yX5_giveBreathsBack : MethodName := ⟨RX5, "giveBreathsBack", "(I)V"⟩
def RX6 : String := "HoarseHill$Rows"
def TX6 : u_T := fun k => match k with
  | 0 => ("HoarseHill$Rows", "lanes", "[I", true)
  | 1 => ("HoarseHill$Rows", "lengths", "[I", true)
  | _ => ("HoarseHill$Rows", "items", "[I", true)
def tyX6 : Nat → FieldType := fun k => match k with
  | 0 => .array .int
  | 1 => .array .int
  | _ => .array .int
abbrev wsX60 : List Cond := u_ws RX6 TX6 3
theorem nmX6 : ∀ a, a < 3 → ∀ b, b < 3 → a ≠ b → (TX6 a).2.1 ≠ (TX6 b).2.1 := by decide +kernel
theorem tyX6_ok : ∀ k, k < 3 → parseFieldDescriptor (TX6 k).2.2.1 = some (tyX6 k) := by decide +kernel
abbrev cX6_init : ByteArray := prog_8_method_1_code
def yX6_init : MethodName := ⟨RX6, "<init>", "()V"⟩
abbrev cX6_isRow : ByteArray := prog_8_method_2_code
def yX6_isRow : MethodName := ⟨RX6, "isRow", "(I)Z"⟩
abbrev cX6_isMissing : ByteArray := prog_8_method_3_code
def yX6_isMissing : MethodName := ⟨RX6, "isMissing", "(I)Z"⟩
abbrev cX6_sameLane : ByteArray := prog_8_method_4_code
def yX6_sameLane : MethodName := ⟨RX6, "sameLane", "(II)Z"⟩
abbrev cX6_hasPlaces : ByteArray := prog_8_method_5_code
def yX6_hasPlaces : MethodName := ⟨RX6, "hasPlaces", "(III)Z"⟩
abbrev cX6_present : ByteArray := prog_8_method_6_code
def yX6_present : MethodName := ⟨RX6, "present", "()I"⟩
abbrev cX6_make : ByteArray := prog_8_method_7_code
def yX6_make : MethodName := ⟨RX6, "make", "(III)V"⟩
abbrev cX6_item : ByteArray := prog_8_method_8_code
def yX6_item : MethodName := ⟨RX6, "item", "(II)I"⟩
abbrev cX6_put : ByteArray := prog_8_method_9_code
def yX6_put : MethodName := ⟨RX6, "put", "(III)I"⟩
abbrev cX6_move : ByteArray := prog_8_method_10_code
def yX6_move : MethodName := ⟨RX6, "move", "(IIIII)V"⟩
abbrev cX6_lose : ByteArray := prog_8_method_11_code
def yX6_lose : MethodName := ⟨RX6, "lose", "(I)I"⟩
def RX7 : String := "HoarseHill$Tape"
def TX7 : u_T := fun k => match k with
  | 0 => ("HoarseHill$Tape", "letters", "[I", true)
  | 1 => ("HoarseHill$Tape", "length", "I", false)
  | 2 => ("HoarseHill$Tape", "position", "I", false)
  | _ => ("HoarseHill$Tape", "fault", "I", false)
def tyX7 : Nat → FieldType := fun k => match k with
  | 0 => .array .int
  | 1 => .int
  | 2 => .int
  | _ => .int
abbrev wsX70 : List Cond := u_ws RX7 TX7 4
theorem nmX7 : ∀ a, a < 4 → ∀ b, b < 4 → a ≠ b → (TX7 a).2.1 ≠ (TX7 b).2.1 := by decide +kernel
theorem tyX7_ok : ∀ k, k < 4 → parseFieldDescriptor (TX7 k).2.2.1 = some (tyX7 k) := by decide +kernel
abbrev cX7_init : ByteArray := prog_9_method_1_code
def yX7_init : MethodName := ⟨RX7, "<init>", "()V"⟩
abbrev cX7_isFull : ByteArray := prog_9_method_2_code
def yX7_isFull : MethodName := ⟨RX7, "isFull", "()Z"⟩
abbrev cX7_append : ByteArray := prog_9_method_3_code
def yX7_append : MethodName := ⟨RX7, "append", "(I)I"⟩
abbrev cX7_empty : ByteArray := prog_9_method_4_code
def yX7_empty : MethodName := ⟨RX7, "empty", "()V"⟩
abbrev cX7_readInto : ByteArray := prog_9_method_5_code
def yX7_readInto : MethodName := ⟨RX7, "readInto", "(LHoarseHill$Hill;)V"⟩
abbrev cX7_readLaw : ByteArray := prog_9_method_6_code
def yX7_readLaw : MethodName := ⟨RX7, "readLaw", "(LHoarseHill$Hill;)V"⟩
abbrev cX7_readMotions : ByteArray := prog_9_method_7_code
def yX7_readMotions : MethodName := ⟨RX7, "readMotions", "(LHoarseHill$Hill;)V"⟩
abbrev cX7_readMotion : ByteArray := prog_9_method_8_code
def yX7_readMotion : MethodName := ⟨RX7, "readMotion", "(LHoarseHill$Hill;)V"⟩
abbrev cX7_readMembers : ByteArray := prog_9_method_9_code
def yX7_readMembers : MethodName := ⟨RX7, "readMembers", "(LHoarseHill$Hill;)V"⟩
abbrev cX7_readMember : ByteArray := prog_9_method_10_code
def yX7_readMember : MethodName := ⟨RX7, "readMember", "(LHoarseHill$Hill;)V"⟩
abbrev cX7_letterAt : ByteArray := prog_9_method_11_code
def yX7_letterAt : MethodName := ⟨RX7, "letterAt", "(I)I"⟩
abbrev cX7_take : ByteArray := prog_9_method_12_code
def yX7_take : MethodName := ⟨RX7, "take", "(I)V"⟩
abbrev cX7_takeNumber : ByteArray := prog_9_method_13_code
def yX7_takeNumber : MethodName := ⟨RX7, "takeNumber", "(II)I"⟩
abbrev cX7_figuresAt : ByteArray := prog_9_method_14_code
def yX7_figuresAt : MethodName := ⟨RX7, "figuresAt", "(I)I"⟩
abbrev cX7_isFigure : ByteArray := prog_9_method_15_code
def yX7_isFigure : MethodName := ⟨RX7, "isFigure", "(I)Z"⟩
abbrev cX7_sortOf : ByteArray := prog_9_method_16_code
def yX7_sortOf : MethodName := ⟨RX7, "sortOf", "(I)I"⟩
def RX8 : String := "HoarseHill"
def TX8 : u_T := fun k => match k with
  | 0 => ("HoarseHill", "rows", "LHoarseHill$Rows;", true)
  | 1 => ("HoarseHill", "tape", "LHoarseHill$Tape;", true)
  | 2 => ("HoarseHill", "now", "LHoarseHill$Hill;", true)
  | 3 => ("HoarseHill", "draft", "LHoarseHill$Hill;", true)
  | 4 => ("HoarseHill", "firstImage", "LHoarseHill$Hill;", true)
  | 5 => ("HoarseHill", "secondImage", "LHoarseHill$Hill;", true)
  | 6 => ("HoarseHill", "acts", "LHoarseHill$Acts;", true)
  | 7 => ("HoarseHill", "foretelling", "LHoarseHill$Foretelling;", true)
  | 8 => ("HoarseHill", "planning", "LHoarseHill$Planning;", true)
  | 9 => ("HoarseHill", "matching", "LHoarseHill$Matching;", true)
  | 10 => ("HoarseHill", "asks", "LHoarseHill$Asks;", true)
  | 11 => ("HoarseHill", "latestFault", "I", false)
  | _ => ("HoarseHill", "latestFinding", "I", false)
def tyX8 : Nat → FieldType := fun k => match k with
  | 0 => .object "HoarseHill$Rows"
  | 1 => .object "HoarseHill$Tape"
  | 2 => .object "HoarseHill$Hill"
  | 3 => .object "HoarseHill$Hill"
  | 4 => .object "HoarseHill$Hill"
  | 5 => .object "HoarseHill$Hill"
  | 6 => .object "HoarseHill$Acts"
  | 7 => .object "HoarseHill$Foretelling"
  | 8 => .object "HoarseHill$Planning"
  | 9 => .object "HoarseHill$Matching"
  | 10 => .object "HoarseHill$Asks"
  | 11 => .int
  | _ => .int
abbrev wsX80 : List Cond := u_ws RX8 TX8 13
theorem nmX8 : ∀ a, a < 13 → ∀ b, b < 13 → a ≠ b → (TX8 a).2.1 ≠ (TX8 b).2.1 := by decide +kernel
theorem tyX8_ok : ∀ k, k < 13 → parseFieldDescriptor (TX8 k).2.2.1 = some (tyX8 k) := by decide +kernel
abbrev cX8_init : ByteArray := prog_1_method_1_code
def yX8_init : MethodName := ⟨RX8, "<init>", "()V"⟩
abbrev cX8_row : ByteArray := prog_1_method_2_code
def yX8_row : MethodName := ⟨RX8, "row", "(III)I"⟩
abbrev cX8_set : ByteArray := prog_1_method_3_code
def yX8_set : MethodName := ⟨RX8, "set", "(III)I"⟩
abbrev cX8_copy : ByteArray := prog_1_method_4_code
def yX8_copy : MethodName := ⟨RX8, "copy", "(IIIII)I"⟩
abbrev cX8_drop : ByteArray := prog_1_method_5_code
def yX8_drop : MethodName := ⟨RX8, "drop", "(I)I"⟩
abbrev cX8_feed : ByteArray := prog_1_method_6_code
def yX8_feed : MethodName := ⟨RX8, "feed", "(I)I"⟩
abbrev cX8_hill : ByteArray := prog_1_method_7_code
def yX8_hill : MethodName := ⟨RX8, "hill", "()I"⟩
abbrev cX8_fault : ByteArray := prog_1_method_8_code
def yX8_fault : MethodName := ⟨RX8, "fault", "()I"⟩
abbrev cX8_speak : ByteArray := prog_1_method_9_code
def yX8_speak : MethodName := ⟨RX8, "speak", "(I)I"⟩
abbrev cX8_lozenge : ByteArray := prog_1_method_10_code
def yX8_lozenge : MethodName := ⟨RX8, "lozenge", "(I)I"⟩
abbrev cX8_cold : ByteArray := prog_1_method_11_code
def yX8_cold : MethodName := ⟨RX8, "cold", "(II)I"⟩
abbrev cX8_needs : ByteArray := prog_1_method_12_code
def yX8_needs : MethodName := ⟨RX8, "needs", "(II)I"⟩
abbrev cX8_undo : ByteArray := prog_1_method_13_code
def yX8_undo : MethodName := ⟨RX8, "undo", "()I"⟩
abbrev cX8_member : ByteArray := prog_1_method_14_code
def yX8_member : MethodName := ⟨RX8, "member", "(II)I"⟩
abbrev cX8_motion : ByteArray := prog_1_method_15_code
def yX8_motion : MethodName := ⟨RX8, "motion", "(I)I"⟩
abbrev cX8_weight : ByteArray := prog_1_method_16_code
def yX8_weight : MethodName := ⟨RX8, "weight", "(I)I"⟩
abbrev cX8_power : ByteArray := prog_1_method_17_code
def yX8_power : MethodName := ⟨RX8, "power", "(II)I"⟩
abbrev cX8_fewest : ByteArray := prog_1_method_18_code
def yX8_fewest : MethodName := ⟨RX8, "fewest", "(I)I"⟩
abbrev cX8_plan : ByteArray := prog_1_method_19_code
def yX8_plan : MethodName := ⟨RX8, "plan", "(II)I"⟩
abbrev cX8_agenda : ByteArray := prog_1_method_20_code
def yX8_agenda : MethodName := ⟨RX8, "agenda", "(I)I"⟩
abbrev cX8_lozenges : ByteArray := prog_1_method_21_code
def yX8_lozenges : MethodName := ⟨RX8, "lozenges", "(I)I"⟩
abbrev cX8_later : ByteArray := prog_1_method_22_code
def yX8_later : MethodName := ⟨RX8, "later", "(II)I"⟩
abbrev cX8_carried : ByteArray := prog_1_method_23_code
def yX8_carried : MethodName := ⟨RX8, "carried", "(I)I"⟩
abbrev cX8_fits : ByteArray := prog_1_method_24_code
def yX8_fits : MethodName := ⟨RX8, "fits", "(IIIII)I"⟩
abbrev cX8_costs : ByteArray := prog_1_method_25_code
def yX8_costs : MethodName := ⟨RX8, "costs", "(III)I"⟩
abbrev cX8_colds : ByteArray := prog_1_method_26_code
def yX8_colds : MethodName := ⟨RX8, "colds", "(II)I"⟩
abbrev cX8_drawn : ByteArray := prog_1_method_27_code
def yX8_drawn : MethodName := ⟨RX8, "drawn", "(III)I"⟩
abbrev cX8_image : ByteArray := prog_1_method_28_code
def yX8_image : MethodName := ⟨RX8, "image", "(I)I"⟩
abbrev cX8_restore : ByteArray := prog_1_method_29_code
def yX8_restore : MethodName := ⟨RX8, "restore", "(I)I"⟩
abbrev cX8_kind : ByteArray := prog_1_method_30_code
def yX8_kind : MethodName := ⟨RX8, "kind", "(I)I"⟩
abbrev cX8_as : ByteArray := prog_1_method_31_code
def yX8_as : MethodName := ⟨RX8, "as", "(II)I"⟩
abbrev cX8_ask : ByteArray := prog_1_method_32_code
def yX8_ask : MethodName := ⟨RX8, "ask", "(II)I"⟩
abbrev cX8_trace : ByteArray := prog_1_method_33_code
def yX8_trace : MethodName := ⟨RX8, "trace", "(I)I"⟩
abbrev cX8_count : ByteArray := prog_1_method_34_code
def yX8_count : MethodName := ⟨RX8, "count", "(I)I"⟩
abbrev cX8_status : ByteArray := prog_1_method_35_code
def yX8_status : MethodName := ⟨RX8, "status", "()I"⟩
abbrev cX8_found : ByteArray := prog_1_method_36_code
def yX8_found : MethodName := ⟨RX8, "found", "(I)I"⟩
abbrev cX8_foundNothing : ByteArray := prog_1_method_37_code
def yX8_foundNothing : MethodName := ⟨RX8, "foundNothing", "(I)I"⟩
abbrev cX8_imageOf : ByteArray := prog_1_method_38_code
def yX8_imageOf : MethodName := ⟨RX8, "imageOf", "(I)LHoarseHill$Hill;"⟩
abbrev cX8_isEither : ByteArray := prog_1_method_39_code
def yX8_isEither : MethodName := ⟨RX8, "isEither", "(I)Z"⟩
abbrev cX8_isPick : ByteArray := prog_1_method_40_code
def yX8_isPick : MethodName := ⟨RX8, "isPick", "(I)Z"⟩
abbrev cX8_isOfKind : ByteArray := prog_1_method_41_code
def yX8_isOfKind : MethodName := ⟨RX8, "isOfKind", "(II)Z"⟩
abbrev cX8_breathAfterLozenges : ByteArray := prog_1_method_42_code
def yX8_breathAfterLozenges : MethodName := ⟨RX8, "breathAfterLozenges", "(II)I"⟩
abbrev cX8_lowest : ByteArray := prog_1_method_43_code
def yX8_lowest : MethodName := ⟨RX8, "lowest", "(III)I"⟩
abbrev cX8_greatestShared : ByteArray := prog_1_method_44_code
def yX8_greatestShared : MethodName := ⟨RX8, "greatestShared", "(II)I"⟩
def RX9 : String := "HoarseHillModel"
def TX9 : u_T := fun k => match k with
  | 0 => ("HoarseHillModel", "row", "[I", true)
  | 1 => ("HoarseHillModel", "isHill", "Z", false)
  | 2 => ("HoarseHillModel", "undos", "I", false)
  | 3 => ("HoarseHillModel", "isKept", "[Z", true)
  | 4 => ("HoarseHillModel", "lanes", "[I", true)
  | 5 => ("HoarseHillModel", "sizes", "[I", true)
  | 6 => ("HoarseHillModel", "items", "[I", true)
  | 7 => ("HoarseHillModel", "tape", "[I", true)
  | 8 => ("HoarseHillModel", "length", "I", false)
  | 9 => ("HoarseHillModel", "fault", "I", false)
  | 10 => ("HoarseHillModel", "status", "I", false)
  | 11 => ("HoarseHillModel", "trace", "[I", true)
  | 12 => ("HoarseHillModel", "traced", "I", false)
  | 13 => ("HoarseHillModel", "at", "I", false)
  | 14 => ("HoarseHillModel", "wrong", "I", false)
  | 15 => ("HoarseHillModel", "number", "I", false)
  | 16 => ("HoarseHillModel", "sets", "[I", true)
  | 17 => ("HoarseHillModel", "bestSets", "[I", true)
  | _ => ("HoarseHillModel", "bestOrder", "[I", true)
def tyX9 : Nat → FieldType := fun k => match k with
  | 0 => .array .int
  | 1 => .boolean
  | 2 => .int
  | 3 => .array .boolean
  | 4 => .array .int
  | 5 => .array .int
  | 6 => .array .int
  | 7 => .array .int
  | 8 => .int
  | 9 => .int
  | 10 => .int
  | 11 => .array .int
  | 12 => .int
  | 13 => .int
  | 14 => .int
  | 15 => .int
  | 16 => .array .int
  | 17 => .array .int
  | _ => .array .int
abbrev wsX90 : List Cond := u_ws RX9 TX9 19
theorem nmX9 : ∀ a, a < 19 → ∀ b, b < 19 → a ≠ b → (TX9 a).2.1 ≠ (TX9 b).2.1 := by decide +kernel
theorem tyX9_ok : ∀ k, k < 19 → parseFieldDescriptor (TX9 k).2.2.1 = some (tyX9 k) := by decide +kernel
abbrev cX9_init : ByteArray := prog_11_method_1_code
def yX9_init : MethodName := ⟨RX9, "<init>", "()V"⟩
abbrev cX9_in : ByteArray := prog_11_method_2_code
def yX9_in : MethodName := ⟨RX9, "in", "(JJJ)Z"⟩
abbrev cX9_has : ByteArray := prog_11_method_3_code
def yX9_has : MethodName := ⟨RX9, "has", "(II)Z"⟩
abbrev cX9_between : ByteArray := prog_11_method_4_code
def yX9_between : MethodName := ⟨RX9, "between", "(I)I"⟩
abbrev cX9_bits : ByteArray := prog_11_method_5_code
def yX9_bits : MethodName := ⟨RX9, "bits", "(I)I"⟩
abbrev cX9_find : ByteArray := prog_11_method_6_code
def yX9_find : MethodName := ⟨RX9, "find", "(I)I"⟩
abbrev cX9_well : ByteArray := prog_11_method_7_code
def yX9_well : MethodName := ⟨RX9, "well", "(I)I"⟩
abbrev cX9_isRow : ByteArray := prog_11_method_8_code
def yX9_isRow : MethodName := ⟨RX9, "isRow", "(I)Z"⟩
abbrev cX9_row : ByteArray := prog_11_method_9_code
def yX9_row : MethodName := ⟨RX9, "row", "(III)I"⟩
abbrev cX9_narrow : ByteArray := prog_11_method_10_code
def yX9_narrow : MethodName := ⟨RX9, "narrow", "(II)I"⟩
abbrev cX9_set : ByteArray := prog_11_method_11_code
def yX9_set : MethodName := ⟨RX9, "set", "(III)I"⟩
abbrev cX9_isSpan : ByteArray := prog_11_method_12_code
def yX9_isSpan : MethodName := ⟨RX9, "isSpan", "(III)Z"⟩
abbrev cX9_copy : ByteArray := prog_11_method_13_code
def yX9_copy : MethodName := ⟨RX9, "copy", "(IIIII)I"⟩
abbrev cX9_drop : ByteArray := prog_11_method_14_code
def yX9_drop : MethodName := ⟨RX9, "drop", "(I)I"⟩
abbrev cX9_feed : ByteArray := prog_11_method_15_code
def yX9_feed : MethodName := ⟨RX9, "feed", "(I)I"⟩
abbrev cX9_isLetter : ByteArray := prog_11_method_16_code
def yX9_isLetter : MethodName := ⟨RX9, "isLetter", "(I)Z"⟩
abbrev cX9_isFigure : ByteArray := prog_11_method_17_code
def yX9_isFigure : MethodName := ⟨RX9, "isFigure", "(I)Z"⟩
abbrev cX9_refuse : ByteArray := prog_11_method_18_code
def yX9_refuse : MethodName := ⟨RX9, "refuse", "(I)Z"⟩
abbrev cX9_sign : ByteArray := prog_11_method_19_code
def yX9_sign : MethodName := ⟨RX9, "sign", "(I)Z"⟩
abbrev cX9_readsNumber : ByteArray := prog_11_method_20_code
def yX9_readsNumber : MethodName := ⟨RX9, "readsNumber", "(II)Z"⟩
abbrev cX9_readsLaw : ByteArray := prog_11_method_21_code
def yX9_readsLaw : MethodName := ⟨RX9, "readsLaw", "()Z"⟩
abbrev cX9_readsMotion : ByteArray := prog_11_method_22_code
def yX9_readsMotion : MethodName := ⟨RX9, "readsMotion", "()Z"⟩
abbrev cX9_kindOfLetter : ByteArray := prog_11_method_23_code
def yX9_kindOfLetter : MethodName := ⟨RX9, "kindOfLetter", "(I)I"⟩
abbrev cX9_readsMember : ByteArray := prog_11_method_24_code
def yX9_readsMember : MethodName := ⟨RX9, "readsMember", "()Z"⟩
abbrev cX9_isSort : ByteArray := prog_11_method_25_code
def yX9_isSort : MethodName := ⟨RX9, "isSort", "()Z"⟩
abbrev cX9_reads : ByteArray := prog_11_method_26_code
def yX9_reads : MethodName := ⟨RX9, "reads", "()Z"⟩
abbrev cX9_hill : ByteArray := prog_11_method_27_code
def yX9_hill : MethodName := ⟨RX9, "hill", "()I"⟩
abbrev cX9_fault : ByteArray := prog_11_method_28_code
def yX9_fault : MethodName := ⟨RX9, "fault", "()I"⟩
abbrev cX9_copyTown : ByteArray := prog_11_method_29_code
def yX9_copyTown : MethodName := ⟨RX9, "copyTown", "(II)V"⟩
abbrev cX9_keepPast : ByteArray := prog_11_method_30_code
def yX9_keepPast : MethodName := ⟨RX9, "keepPast", "()V"⟩
abbrev cX9_undo : ByteArray := prog_11_method_31_code
def yX9_undo : MethodName := ⟨RX9, "undo", "()I"⟩
abbrev cX9_isMember : ByteArray := prog_11_method_32_code
def yX9_isMember : MethodName := ⟨RX9, "isMember", "(I)Z"⟩
abbrev cX9_costBy : ByteArray := prog_11_method_33_code
def yX9_costBy : MethodName := ⟨RX9, "costBy", "(II)I"⟩
abbrev cX9_costOf : ByteArray := prog_11_method_34_code
def yX9_costOf : MethodName := ⟨RX9, "costOf", "(II)I"⟩
abbrev cX9_canSpeak : ByteArray := prog_11_method_35_code
def yX9_canSpeak : MethodName := ⟨RX9, "canSpeak", "(I)I"⟩
abbrev cX9_weighs : ByteArray := prog_11_method_36_code
def yX9_weighs : MethodName := ⟨RX9, "weighs", "(II)I"⟩
abbrev cX9_weightOf : ByteArray := prog_11_method_37_code
def yX9_weightOf : MethodName := ⟨RX9, "weightOf", "(II)I"⟩
abbrev cX9_motionOf : ByteArray := prog_11_method_38_code
def yX9_motionOf : MethodName := ⟨RX9, "motionOf", "(I)I"⟩
abbrev cX9_isCarried : ByteArray := prog_11_method_39_code
def yX9_isCarried : MethodName := ⟨RX9, "isCarried", "(II)Z"⟩
abbrev cX9_passFor : ByteArray := prog_11_method_40_code
def yX9_passFor : MethodName := ⟨RX9, "passFor", "(III)I"⟩
abbrev cX9_pass : ByteArray := prog_11_method_41_code
def yX9_pass : MethodName := ⟨RX9, "pass", "(II)I"⟩
abbrev cX9_passAll : ByteArray := prog_11_method_42_code
def yX9_passAll : MethodName := ⟨RX9, "passAll", "(I)I"⟩
abbrev cX9_areMembers : ByteArray := prog_11_method_43_code
def yX9_areMembers : MethodName := ⟨RX9, "areMembers", "(I)Z"⟩
abbrev cX9_speak : ByteArray := prog_11_method_44_code
def yX9_speak : MethodName := ⟨RX9, "speak", "(I)I"⟩
abbrev cX9_lozenge : ByteArray := prog_11_method_45_code
def yX9_lozenge : MethodName := ⟨RX9, "lozenge", "(I)I"⟩
abbrev cX9_cold : ByteArray := prog_11_method_46_code
def yX9_cold : MethodName := ⟨RX9, "cold", "(II)I"⟩
abbrev cX9_isMotion : ByteArray := prog_11_method_47_code
def yX9_isMotion : MethodName := ⟨RX9, "isMotion", "(I)Z"⟩
abbrev cX9_needs : ByteArray := prog_11_method_48_code
def yX9_needs : MethodName := ⟨RX9, "needs", "(II)I"⟩
abbrev cX9_member : ByteArray := prog_11_method_49_code
def yX9_member : MethodName := ⟨RX9, "member", "(II)I"⟩
abbrev cX9_motion : ByteArray := prog_11_method_50_code
def yX9_motion : MethodName := ⟨RX9, "motion", "(I)I"⟩
abbrev cX9_weight : ByteArray := prog_11_method_51_code
def yX9_weight : MethodName := ⟨RX9, "weight", "(I)I"⟩
abbrev cX9_layTried : ByteArray := prog_11_method_52_code
def yX9_layTried : MethodName := ⟨RX9, "layTried", "()V"⟩
abbrev cX9_tellPart : ByteArray := prog_11_method_53_code
def yX9_tellPart : MethodName := ⟨RX9, "tellPart", "(III)I"⟩
abbrev cX9_factorial : ByteArray := prog_11_method_54_code
def yX9_factorial : MethodName := ⟨RX9, "factorial", "(I)I"⟩
abbrev cX9_power : ByteArray := prog_11_method_55_code
def yX9_power : MethodName := ⟨RX9, "power", "(II)I"⟩
abbrev cX9_fewest : ByteArray := prog_11_method_56_code
def yX9_fewest : MethodName := ⟨RX9, "fewest", "(I)I"⟩
abbrev cX9_nextSet : ByteArray := prog_11_method_57_code
def yX9_nextSet : MethodName := ⟨RX9, "nextSet", "(II)I"⟩
abbrev cX9_mostCarried : ByteArray := prog_11_method_58_code
def yX9_mostCarried : MethodName := ⟨RX9, "mostCarried", "(I)I"⟩
abbrev cX9_plan : ByteArray := prog_11_method_59_code
def yX9_plan : MethodName := ⟨RX9, "plan", "(II)I"⟩
abbrev cX9_carriedBy : ByteArray := prog_11_method_60_code
def yX9_carriedBy : MethodName := ⟨RX9, "carriedBy", "(I)I"⟩
abbrev cX9_agenda : ByteArray := prog_11_method_61_code
def yX9_agenda : MethodName := ⟨RX9, "agenda", "(I)I"⟩
abbrev cX9_gets : ByteArray := prog_11_method_62_code
def yX9_gets : MethodName := ⟨RX9, "gets", "(II)I"⟩
abbrev cX9_lozengesIn : ByteArray := prog_11_method_63_code
def yX9_lozengesIn : MethodName := ⟨RX9, "lozengesIn", "(I)I"⟩
abbrev cX9_turns : ByteArray := prog_11_method_64_code
def yX9_turns : MethodName := ⟨RX9, "turns", "(I)Z"⟩
abbrev cX9_lozenges : ByteArray := prog_11_method_65_code
def yX9_lozenges : MethodName := ⟨RX9, "lozenges", "(I)I"⟩
abbrev cX9_later : ByteArray := prog_11_method_66_code
def yX9_later : MethodName := ⟨RX9, "later", "(II)I"⟩
abbrev cX9_carried : ByteArray := prog_11_method_67_code
def yX9_carried : MethodName := ⟨RX9, "carried", "(I)I"⟩
abbrev cX9_noItems : ByteArray := prog_11_method_68_code
def yX9_noItems : MethodName := ⟨RX9, "noItems", "(III)I"⟩
abbrev cX9_isSo : ByteArray := prog_11_method_69_code
def yX9_isSo : MethodName := ⟨RX9, "isSo", "(IIIII)Z"⟩
abbrev cX9_fits : ByteArray := prog_11_method_70_code
def yX9_fits : MethodName := ⟨RX9, "fits", "(IIIII)I"⟩
abbrev cX9_costs : ByteArray := prog_11_method_71_code
def yX9_costs : MethodName := ⟨RX9, "costs", "(III)I"⟩
abbrev cX9_colds : ByteArray := prog_11_method_72_code
def yX9_colds : MethodName := ⟨RX9, "colds", "(II)I"⟩
abbrev cX9_drawn : ByteArray := prog_11_method_73_code
def yX9_drawn : MethodName := ⟨RX9, "drawn", "(III)I"⟩
abbrev cX9_image : ByteArray := prog_11_method_74_code
def yX9_image : MethodName := ⟨RX9, "image", "(I)I"⟩
abbrev cX9_restore : ByteArray := prog_11_method_75_code
def yX9_restore : MethodName := ⟨RX9, "restore", "(I)I"⟩
abbrev cX9_kind : ByteArray := prog_11_method_76_code
def yX9_kind : MethodName := ⟨RX9, "kind", "(I)I"⟩
abbrev cX9_isOf : ByteArray := prog_11_method_77_code
def yX9_isOf : MethodName := ⟨RX9, "isOf", "(II)Z"⟩
abbrev cX9_as : ByteArray := prog_11_method_78_code
def yX9_as : MethodName := ⟨RX9, "as", "(II)I"⟩
abbrev cX9_begin : ByteArray := prog_11_method_79_code
def yX9_begin : MethodName := ⟨RX9, "begin", "(I)V"⟩
abbrev cX9_lentSize : ByteArray := prog_11_method_80_code
def yX9_lentSize : MethodName := ⟨RX9, "lentSize", "(I)I"⟩
abbrev cX9_plainSize : ByteArray := prog_11_method_81_code
def yX9_plainSize : MethodName := ⟨RX9, "plainSize", "(I)I"⟩
abbrev cX9_mildSize : ByteArray := prog_11_method_82_code
def yX9_mildSize : MethodName := ⟨RX9, "mildSize", "(I)I"⟩
abbrev cX9_sizeOf : ByteArray := prog_11_method_83_code
def yX9_sizeOf : MethodName := ⟨RX9, "sizeOf", "(I)I"⟩
abbrev cX9_lentMark : ByteArray := prog_11_method_84_code
def yX9_lentMark : MethodName := ⟨RX9, "lentMark", "(I)I"⟩
abbrev cX9_plainMark : ByteArray := prog_11_method_85_code
def yX9_plainMark : MethodName := ⟨RX9, "plainMark", "(I)I"⟩
abbrev cX9_mark : ByteArray := prog_11_method_86_code
def yX9_mark : MethodName := ⟨RX9, "mark", "(I)I"⟩
abbrev cX9_mildMark : ByteArray := prog_11_method_87_code
def yX9_mildMark : MethodName := ⟨RX9, "mildMark", "(I)I"⟩
abbrev cX9_ask : ByteArray := prog_11_method_88_code
def yX9_ask : MethodName := ⟨RX9, "ask", "(II)I"⟩
abbrev cX9_trace : ByteArray := prog_11_method_89_code
def yX9_trace : MethodName := ⟨RX9, "trace", "(I)I"⟩
abbrev cX9_count : ByteArray := prog_11_method_90_code
def yX9_count : MethodName := ⟨RX9, "count", "(I)I"⟩
abbrev cX9_status : ByteArray := prog_11_method_91_code
def yX9_status : MethodName := ⟨RX9, "status", "()I"⟩
def RJ6 : String := "java/lang/Integer"
def TJ6 : u_T := fun k => match k with
  | _ => ("", "", "", false)
def tyJ6 : Nat → FieldType := fun k => match k with
  | _ => .int
abbrev wsJ60 : List Cond := u_ws RJ6 TJ6 0
theorem nmJ6 : ∀ a, a < 0 → ∀ b, b < 0 → a ≠ b → (TJ6 a).2.1 ≠ (TJ6 b).2.1 := by decide +kernel
theorem tyJ6_ok : ∀ k, k < 0 → parseFieldDescriptor (TJ6 k).2.2.1 = some (tyJ6 k) := by decide +kernel
abbrev cJ6_bitCount_0f7a4 : ByteArray := prog_12_method_49_code
def yJ6_bitCount_0f7a4 : MethodName := ⟨RJ6, "bitCount", "(I)I"⟩
def RJ9 : String := "java/lang/Math"
def TJ9 : u_T := fun k => match k with
  | _ => ("", "", "", false)
def tyJ9 : Nat → FieldType := fun k => match k with
  | _ => .int
abbrev wsJ90 : List Cond := u_ws RJ9 TJ9 0
theorem nmJ9 : ∀ a, a < 0 → ∀ b, b < 0 → a ≠ b → (TJ9 a).2.1 ≠ (TJ9 b).2.1 := by decide +kernel
theorem tyJ9_ok : ∀ k, k < 0 → parseFieldDescriptor (TJ9 k).2.2.1 = some (tyJ9 k) := by decide +kernel
abbrev cJ9_max_7cf53 : ByteArray := prog_13_method_65_code
def yJ9_max_7cf53 : MethodName := ⟨RJ9, "max", "(II)I"⟩
abbrev cJ9_min_7cf53 : ByteArray := prog_13_method_69_code
def yJ9_min_7cf53 : MethodName := ⟨RJ9, "min", "(II)I"⟩
def RJ10 : String := "java/lang/System"
def TJ10 : u_T := fun k => match k with
  | _ => ("", "", "", false)
def tyJ10 : Nat → FieldType := fun k => match k with
  | _ => .int
abbrev wsJ100 : List Cond := u_ws RJ10 TJ10 0
theorem nmJ10 : ∀ a, a < 0 → ∀ b, b < 0 → a ≠ b → (TJ10 a).2.1 ≠ (TJ10 b).2.1 := by decide +kernel
theorem tyJ10_ok : ∀ k, k < 0 → parseFieldDescriptor (TJ10 k).2.2.1 = some (tyJ10 k) := by decide +kernel
def RL : String := "HoarseHillLaw"
abbrev cL_law : ByteArray := code
def yL_law : MethodName := ⟨RL, "law", "([I)Z"⟩
abbrev vwCl : List vw_C := [(RX0, TX0, 3), (RX1, TX1, 4), (RX2, TX2, 3), (RX3, TX3, 10), (RX4, TX4, 3), (RX5, TX5, 7), (RX6, TX6, 3), (RX7, TX7, 4), (RX8, TX8, 13), (RX9, TX9, 19)]
end
section
/-! the words of the tables that hold at every state that a call reaches -/
def am_nest : Jvm.Cond → Bool
  | .methodLinkNest _ _ _ _ => true
  | _ => false
def am_kw (w : Jvm.Cond) : Bool := goodWord w || am_nest w
def am_ws : List Jvm.Cond := lw_tbl.filter am_kw
theorem am_word {args a' : Array Value} {s U : State} (hW : s.WarmedH U.vm) {w : Jvm.Cond} (hk : am_kw w = true) (h : w.before args s = true) : w.before a' U = true := by
  unfold am_kw at hk
  rcases (Bool.or_eq_true _ _).mp hk with h1 | h1
  · exact word_at hW (good_of_word h1) h
  · cases w with
    | methodLinkNest a i x hh => exact va_Nw.use rfl (va_Nw.warmM hW (va_Nw.of rfl h))
    | _ => cases h1
theorem am_in {i : Nat} {w : Jvm.Cond} (h : lw_tbl[i]? = some w) (hk : am_kw w = true) : w ∈ am_ws := List.mem_filter.mpr ⟨List.mem_of_getElem? h, hk⟩
theorem am_pay {args : Array Value} {s : State} (ht : ∀ w ∈ am_ws, w.before args s = true) : ∀ w ∈ am_ws, ∀ (a' : Array Value) (U : State), s.WarmedH U.vm → w.before a' U = true :=
  fun w hw a' U hW => am_word hW (List.mem_filter.mp hw).2 (ht w hw)
theorem am_u0 : ∀ w ∈ u_ws RX0 TX0 3, w ∈ am_ws := by decide +kernel
end
section
/-! A MACHINE OF MY OWN: cells by the order of their making, frames with what is known of the locals; what an instruction does there. An entry of a method's table: the instruction, the place behind it, the target, three numbers (a local, a field, a method .. and the place of its word in lw_tbl), an int, a long, the pairs of a switch. -/
abbrev am_I : Type := Instr × Nat × Nat × Nat × Nat × Nat × Int32 × Int64 × List (Int32 × Nat)
abbrev am_T : Type := List (List (Option am_I))
abbrev am_C : Type := (Bool × Nat × (Nat → Int32)) ⊕ (Nat × List Value)
abbrev am_H : Type := List am_C
abbrev am_L : Type := List (Option Value)
abbrev am_F : Type := Nat × am_L × List Value × am_H
abbrev am_R : Type := am_F ⊕ ((Prop × am_F × am_F) ⊕ ((Prop × am_F) ⊕ ((Prop × Option Value) ⊕ ((Nat × List Value × am_F) ⊕ Unit))))
def am_fetch (t : am_T) (pc : Nat) : Option am_I := match t[pc / 16]? with
  | some r => (match r[pc % 16]? with
    | some (some e) => some e
    | _ => none)
  | none => none
def am_ty : Nat → Nat → FieldType
  | 0 => tyX0
  | 1 => tyX1
  | 2 => tyX2
  | 3 => tyX3
  | 4 => tyX4
  | 5 => tyX5
  | 6 => tyX6
  | 7 => tyX7
  | 8 => tyX8
  | _ => tyX9
end
section
/-! what is asked of a table's entry, and of a method: by program, over the code and the words of the tables -/
abbrev am_M : Type := MethodName × ByteArray × Nat × Option FieldType × Nat × Nat × Nat × Nat × Nat × Nat × am_T
def am_len (pc n nx : Nat) : Bool := Nat.beq nx (pc + n)
def am_fld (own : String) (i a b w : Nat) : Bool := match vwCl[a]? with
  | some q => Nat.blt b q.2.2 && decide (lw_tbl[w]? = some (Jvm.Cond.fieldLink own i q.1 (q.2.1 b).2.1 (q.2.1 b).2.2.1)) && decide ((q.2.1 b).1 = q.1)
  | none => false
def am_fin (a b : Nat) : Bool := match vwCl[a]? with
  | some q => (q.2.1 b).2.2.2
  | none => false
def am_own (own : String) (a : Nat) : Bool := match vwCl[a]? with
  | some q => decide (q.1 = own)
  | none => false
def am_sws (pc : Nat) (lo : Int) : List Int → List (Int32 × Nat) → Bool
  | [], [] => true
  | o :: os, (k, t) :: r => decide (k.toInt = lo) && decide ((pc : Int) + o = (t : Int)) && am_sws pc (lo + 1) os r
  | _, _ => false
def am_swl (pc : Nat) : List (Int × Int) → List (Int32 × Nat) → Bool
  | [], [] => true
  | (n, o) :: os, (k, t) :: r => decide (k.toInt = n) && decide ((pc : Int) + o = (t : Int)) && am_swl pc os r
  | _, _ => false
/-- the head of a method of the list: its name, code, locals, answer, kind (0 static, 1 virtual, 2 a maker), the places of its words, its arguments -/
def am_call (mt : Nat → Option (MethodName × Nat × Nat)) (own : String) (i tg a b w k : Nat) (nest : Bool) : Bool := match mt a with
  | some (y, n, kd) => Nat.beq n b && Nat.beq kd k && (match nest with
    | false => decide (lw_tbl[w]? = some (Jvm.Cond.methodLink own i y))
    | true => decide (lw_tbl[w]? = some (Jvm.Cond.methodLinkNest own i y "HoarseHill")))
  | none => false
def am_rcv (mt : Nat → Option (MethodName × Nat × Nat)) (a tg : Nat) : Bool := match mt a, vwCl[tg]? with
  | some (y, _, _), some q => decide (y.cls = q.1)
  | _, _ => false
def am_ok1 (mt : Nat → Option (MethodName × Nat × Nat)) (own : String) (mnm : String) (cc : ByteArray) (nL : Nat) (ret : Option FieldType) (pc : Nat) (E : am_I) : Bool := match E with
  | (ins, nx, tg, a, b, w, v, lv, sw) => decide (decode cc pc = .ok (ins, nx - pc)) && (match ins with
    | .iconst n => am_len pc 1 nx && decide (Int32.ofInt n = v)
    | .bipush n => am_len pc 2 nx && decide ((Int8.ofInt n).toInt32 = v)
    | .sipush n => am_len pc 3 nx && decide ((Int16.ofInt n).toInt32 = v)
    | .ldc i => am_len pc 2 nx && decide (lw_tbl[w]? = some (Jvm.Cond.constant own i v))
    | .ldc_w i => am_len pc 3 nx && decide (lw_tbl[w]? = some (Jvm.Cond.constant own i v))
    | .lconst n => am_len pc 1 nx && decide (Int64.ofNat (n : Nat) = lv)
    | .ldc2_w i => am_len pc 3 nx && decide (lw_tbl[w]? = some (Jvm.Cond.constantLong own i lv))
    | .iload i => am_len pc 2 nx && Nat.beq i a
    | .lload i => am_len pc 2 nx && Nat.beq i a
    | .aload i => am_len pc 2 nx && Nat.beq i a
    | .istore i => am_len pc 2 nx && Nat.beq i a
    | .lstore i => am_len pc 2 nx && Nat.beq i a
    | .astore i => am_len pc 2 nx && Nat.beq i a
    | .iload_n i => am_len pc 1 nx && Nat.beq i.val a
    | .lload_n i => am_len pc 1 nx && Nat.beq i.val a
    | .aload_n i => am_len pc 1 nx && Nat.beq i.val a
    | .istore_n i => am_len pc 1 nx && Nat.beq i.val a
    | .lstore_n i => am_len pc 1 nx && Nat.beq i.val a
    | .astore_n i => am_len pc 1 nx && Nat.beq i.val a
    | .iinc i n => am_len pc 3 nx && Nat.beq i a && decide (Int32.ofInt n = v)
    | .goto o => am_len pc 3 nx && decide ((pc : Int) + o = (tg : Int))
    | .if_icmp _ o => am_len pc 3 nx && decide ((pc : Int) + o = (tg : Int))
    | .ifCond _ o => am_len pc 3 nx && decide ((pc : Int) + o = (tg : Int))
    | .tableswitch d lo hi os => Nat.ble pc nx && decide ((pc : Int) + d = (tg : Int)) && decide (hi + 1 - lo = (os.size : Int)) && am_sws pc lo os.toList sw
    | .lookupswitch d ps => Nat.ble pc nx && decide ((pc : Int) + d = (tg : Int)) && (ps.toList.zip (ps.toList.drop 1)).all (fun (a, next) => a.1 < next.1) && am_swl pc ps.toList sw
    | .getfield i => am_len pc 3 nx && am_fld own i a b w
    | .putfield i => am_len pc 3 nx && am_fld own i a b w && (match tg with
      | 0 => decide (am_ty a b = .int) && !(am_fin a b)
      | 1 => decide (am_ty a b = .boolean) && !(am_fin a b)
      | _ => am_fin a b && am_own own a && decide (mnm = "<init>") && (match am_ty a b with
        | .object _ => true
        | .array _ => true
        | _ => false))
    | .new i => am_len pc 3 nx && (match vwCl[a]? with
      | some q => decide (lw_tbl[w]? = some (Jvm.Cond.classLink own i q.1))
      | none => false)
    | .newarray _ => am_len pc 2 nx
    | .invokespecial i => am_len pc 3 nx && (match tg with
      | 2 => decide (lw_tbl[w]? = some (Jvm.Cond.methodLink own i objectInit))
      | 1 => am_call mt own i tg a b w 2 true
      | _ => am_call mt own i tg a b w 2 false)
    | .invokevirtual i => am_len pc 3 nx && am_call mt own i tg a b w 1 false && am_rcv mt a tg
    | .invokestatic i => am_len pc 3 nx && (match tg with
      | 2 => decide (lw_tbl[w]? = some (Jvm.Cond.methodLink own i arraycopyName))
      | 1 => am_call mt own i tg a b w 0 true
      | _ => am_call mt own i tg a b w 0 false)
    | .ireturn => am_len pc 1 nx && (match tg with
      | 0 => decide (ret = some .int)
      | _ => decide (ret = some .boolean))
    | .areturn => am_len pc 1 nx && (match ret with
      | some (.object _) => true
      | _ => false)
    | .return_ => am_len pc 1 nx && decide (ret = none)
    | _ => am_len pc 1 nx)
def am_okR (f : Nat → am_I → Bool) : Nat → List (Option am_I) → Bool
  | _, [] => true
  | pc, none :: r => am_okR f (pc + 1) r
  | pc, some E :: r => f pc E && am_okR f (pc + 1) r
def am_okT (f : Nat → am_I → Bool) : Nat → am_T → Bool
  | _, [] => true
  | k, r :: t => Nat.ble r.length 16 && am_okR f (16 * k) r && am_okT f (k + 1) t
theorem am_okR_at {f : Nat → am_I → Bool} : ∀ (r : List (Option am_I)) (pc i : Nat) (E : am_I), am_okR f pc r = true → r[i]? = some (some E) → f (pc + i) E = true
  | [], _, i, _, _, h => by simp at h
  | none :: r, pc, 0, _, _, h => by simp at h
  | none :: r, pc, i + 1, E, h1, h => by
    rw [List.getElem?_cons_succ] at h
    have := am_okR_at r (pc + 1) i E h1 h
    rw [show pc + (i + 1) = pc + 1 + i by omega]
    exact this
  | some e :: r, pc, 0, E, h1, h => by
    simp at h
    subst h
    simp only [am_okR, Bool.and_eq_true] at h1
    exact h1.1
  | some e :: r, pc, i + 1, E, h1, h => by
    rw [List.getElem?_cons_succ] at h
    simp only [am_okR, Bool.and_eq_true] at h1
    have := am_okR_at r (pc + 1) i E h1.2 h
    rw [show pc + (i + 1) = pc + 1 + i by omega]
    exact this
theorem am_okT_at {f : Nat → am_I → Bool} : ∀ (t : am_T) (k i : Nat) (r : List (Option am_I)), am_okT f k t = true → t[i]? = some r → am_okR f (16 * (k + i)) r = true
  | [], _, i, _, _, h => by simp at h
  | q :: t, k, 0, r, h1, h => by
    simp at h
    subst h
    simp only [am_okT, Bool.and_eq_true] at h1
    exact h1.1.2
  | q :: t, k, i + 1, r, h1, h => by
    rw [List.getElem?_cons_succ] at h
    simp only [am_okT, Bool.and_eq_true] at h1
    have := am_okT_at t (k + 1) i r h1.2 h
    rw [show k + (i + 1) = k + 1 + i by omega]
    exact this
theorem am_fetch_ok {f : Nat → am_I → Bool} {t : am_T} (h : am_okT f 0 t = true) {pc : Nat} {E : am_I} (hf : am_fetch t pc = some E) : f pc E = true := by
  unfold am_fetch at hf
  cases hr : t[pc / 16]? with
  | none => rw [hr] at hf; cases hf
  | some r =>
    rw [hr] at hf
    have h1 := am_okT_at t 0 (pc / 16) r h hr
    cases he : r[pc % 16]? with
    | none => simp only [he] at hf; cases hf
    | some o =>
      cases o with
      | none => simp only [he] at hf; cases hf
      | some e =>
        simp only [he] at hf
        cases hf
        have h2 := am_okR_at r _ (pc % 16) E h1 he
        rw [show 16 * (0 + pc / 16) + pc % 16 = pc by omega] at h2
        exact h2
/-- a method: its words stand in the tables, its code is its table -/
def am_okH (M : am_M) : Bool := match M with
  | (y, cc, nL, ret, kd, w1, w2, w3, w4, n, _) => decide (lw_tbl[w1]? = some (Jvm.Cond.code y cc nL ret)) && decide (lw_tbl[w2]? = some (Jvm.Cond.initialized y.cls)) && (match kd with
      | 0 => decide (lw_tbl[w3]? = some (Jvm.Cond.static y))
      | 1 => decide (lw_tbl[w3]? = some (Jvm.Cond.instanceMethod y)) && decide (lw_tbl[w4]? = some (Jvm.Cond.selects y.cls y y))
      | _ => decide (lw_tbl[w3]? = some (Jvm.Cond.instanceMethod y)) && decide (y.name = "<init>") && decide (ret = none)) &&
    plainName y.cls && decide (y.cls ≠ "java/lang/invoke/MethodHandle") && decide (y.cls ≠ "java/lang/invoke/VarHandle") && decide ((parseMethodDescriptor y.desc).map (fun d => d.parameters.length) = some n) && Nat.ble nL 20
def am_okM (mt : Nat → Option (MethodName × Nat × Nat)) (M : am_M) : Prop := am_okH M = true ∧ am_okT (am_ok1 mt M.1.cls M.1.name M.2.1 M.2.2.1 M.2.2.2.1) 0 M.2.2.2.2.2.2.2.2.2.2 = true
def am_hd (M : am_M) : MethodName × Nat × Nat := (M.1, M.2.2.2.2.2.2.2.2.2.1, M.2.2.2.2.1)
def am_okQ (f : Nat → am_I → Bool) (k : Nat) (r : List (Option am_I)) : Bool := Nat.ble r.length 16 && am_okR f (16 * k) r
theorem am_okT_c {f : Nat → am_I → Bool} {k : Nat} {r : List (Option am_I)} {t : am_T} (h1 : am_okQ f k r = true) (h2 : am_okT f (k + 1) t = true) : am_okT f k (r :: t) = true := by
  show (am_okQ f k r && am_okT f (k + 1) t) = true
  rw [h1, h2]; rfl
end
section
/-! the heads of all methods: name, arguments, kind -/
def am_hs0 : List (MethodName × Nat × Nat) := [(yX0_init, 0, 2), (yX0_forget, 0, 1), (yX0_keep, 1, 1), (yX0_giveBack, 1, 1), (yX1_init, 1, 2), (yX1_sizeOf, 1, 1), (yX1_markOf, 1, 1), (yX1_traceAt, 1, 1), (yX1_begin, 1, 1), (yX1_leave, 1, 1), (yX1_isMild, 0, 1), (yX1_lentSize, 0, 1), (yX1_lentMark, 0, 1), (yX1_plainSize, 0, 1), (yX1_sizeOfAnyPlain, 0, 1), (yX1_plainMark, 0, 1), (yX1_markOfAnyPlain, 0, 1), (yX1_mildSize, 0, 1), (yX1_sizeOfAnyMild, 0, 1), (yX1_mildMark, 0, 1), (yX2_init, 2, 2), (yX2_powerOf, 2, 1), (yX2_ordersOf, 1, 0), (yX2_fewestSpeakers, 1, 1), (yX2_bestAgenda, 1, 1), (yX2_digit, 3, 0), (yX2_isOrder, 2, 0), (yX2_carriedInOrder, 2, 1), (yX2_fewestLozenges, 1, 1), (yX2_give, 1, 1)]
def am_hs1 : List (MethodName × Nat × Nat) := [(yX2_breathLater, 2, 1), (yX2_carriedLater, 1, 1), (yX2_carriedInColds, 2, 1), (yX2_catchColds, 2, 1), (yX2_sessions, 3, 1), (yX2_breathOfAll, 0, 1), (yX3_init, 0, 2), (yX3_clear, 0, 1), (yX3_become, 1, 1), (yX3_hasMember, 1, 1), (yX3_hasMotion, 1, 1), (yX3_isSet, 1, 1), (yX3_addMotion, 1, 1), (yX3_addMember, 3, 1), (yX3_costOf, 1, 1), (yX3_ableSet, 0, 1), (yX3_weighs, 2, 1), (yX3_weighsSet, 2, 1), (yX3_needToday, 0, 1), (yX3_isCarriedBy, 2, 1), (yX3_isCarriedByAll, 0, 1), (yX3_passDay, 2, 1), (yX3_passDays, 1, 1), (yX4_init, 3, 2), (yX4_breathsOf, 4, 1), (yX4_sortsOf, 4, 1), (yX4_costsOf, 3, 1), (yX4_comesAbout, 3, 1), (yX5_init, 2, 2), (yX5_bestDays, 2, 1)]
def am_hs2 : List (MethodName × Nat × Nat) := [(yX5_tryDay, 2, 1), (yX5_closePlan, 2, 1), (yX5_takePath, 2, 1), (yX5_keepBreaths, 1, 1), (yX5_giveBreathsBack, 1, 1), (yX6_init, 0, 2), (yX6_isRow, 1, 1), (yX6_isMissing, 1, 1), (yX6_sameLane, 2, 1), (yX6_hasPlaces, 3, 1), (yX6_present, 0, 1), (yX6_make, 3, 1), (yX6_item, 2, 1), (yX6_put, 3, 1), (yX6_move, 5, 1), (yX6_lose, 1, 1), (yX7_init, 0, 2), (yX7_isFull, 0, 1), (yX7_append, 1, 1), (yX7_empty, 0, 1), (yX7_readInto, 1, 1), (yX7_readLaw, 1, 1), (yX7_readMotions, 1, 1), (yX7_readMotion, 1, 1), (yX7_readMembers, 1, 1), (yX7_readMember, 1, 1), (yX7_letterAt, 1, 1), (yX7_take, 1, 1), (yX7_takeNumber, 2, 1), (yX7_figuresAt, 1, 1)]
def am_hs3 : List (MethodName × Nat × Nat) := [(yX7_isFigure, 1, 0), (yX7_sortOf, 1, 0), (yX8_init, 0, 2), (yX8_row, 3, 1), (yX8_set, 3, 1), (yX8_copy, 5, 1), (yX8_drop, 1, 1), (yX8_feed, 1, 1), (yX8_hill, 0, 1), (yX8_fault, 0, 1), (yX8_speak, 1, 1), (yX8_lozenge, 1, 1), (yX8_cold, 2, 1), (yX8_needs, 2, 1), (yX8_undo, 0, 1), (yX8_member, 2, 1), (yX8_motion, 1, 1), (yX8_weight, 1, 1), (yX8_power, 2, 1), (yX8_fewest, 1, 1), (yX8_plan, 2, 1), (yX8_agenda, 1, 1), (yX8_lozenges, 1, 1), (yX8_later, 2, 1), (yX8_carried, 1, 1), (yX8_fits, 5, 1), (yX8_costs, 3, 1), (yX8_colds, 2, 1), (yX8_drawn, 3, 1), (yX8_image, 1, 1)]
def am_hs4 : List (MethodName × Nat × Nat) := [(yX8_restore, 1, 1), (yX8_kind, 1, 1), (yX8_as, 2, 1), (yX8_ask, 2, 1), (yX8_trace, 1, 1), (yX8_count, 1, 1), (yX8_status, 0, 1), (yX8_found, 1, 1), (yX8_foundNothing, 1, 1), (yX8_imageOf, 1, 1), (yX8_isEither, 1, 0), (yX8_isPick, 1, 0), (yX8_isOfKind, 2, 0), (yX8_breathAfterLozenges, 2, 0), (yX8_lowest, 3, 0), (yX8_greatestShared, 2, 0), (yX9_init, 0, 2), (yX9_in, 3, 0), (yX9_has, 2, 0), (yX9_between, 1, 0), (yX9_bits, 1, 0), (yX9_find, 1, 1), (yX9_well, 1, 1), (yX9_isRow, 1, 0), (yX9_row, 3, 1), (yX9_narrow, 2, 0), (yX9_set, 3, 1), (yX9_isSpan, 3, 1), (yX9_copy, 5, 1), (yX9_drop, 1, 1)]
def am_hs5 : List (MethodName × Nat × Nat) := [(yX9_feed, 1, 1), (yX9_isLetter, 1, 1), (yX9_isFigure, 1, 1), (yX9_refuse, 1, 1), (yX9_sign, 1, 1), (yX9_readsNumber, 2, 1), (yX9_readsLaw, 0, 1), (yX9_readsMotion, 0, 1), (yX9_kindOfLetter, 1, 0), (yX9_readsMember, 0, 1), (yX9_isSort, 0, 1), (yX9_reads, 0, 1), (yX9_hill, 0, 1), (yX9_fault, 0, 1), (yX9_copyTown, 2, 1), (yX9_keepPast, 0, 1), (yX9_undo, 0, 1), (yX9_isMember, 1, 1), (yX9_costBy, 2, 0), (yX9_costOf, 2, 1), (yX9_canSpeak, 1, 1), (yX9_weighs, 2, 1), (yX9_weightOf, 2, 1), (yX9_motionOf, 1, 1), (yX9_isCarried, 2, 1), (yX9_passFor, 3, 1), (yX9_pass, 2, 1), (yX9_passAll, 1, 1), (yX9_areMembers, 1, 1), (yX9_speak, 1, 1)]
def am_hs6 : List (MethodName × Nat × Nat) := [(yX9_lozenge, 1, 1), (yX9_cold, 2, 1), (yX9_isMotion, 1, 1), (yX9_needs, 2, 1), (yX9_member, 2, 1), (yX9_motion, 1, 1), (yX9_weight, 1, 1), (yX9_layTried, 0, 1), (yX9_tellPart, 3, 0), (yX9_factorial, 1, 0), (yX9_power, 2, 1), (yX9_fewest, 1, 1), (yX9_nextSet, 2, 1), (yX9_mostCarried, 1, 1), (yX9_plan, 2, 1), (yX9_carriedBy, 1, 1), (yX9_agenda, 1, 1), (yX9_gets, 2, 1), (yX9_lozengesIn, 1, 1), (yX9_turns, 1, 1), (yX9_lozenges, 1, 1), (yX9_later, 2, 1), (yX9_carried, 1, 1), (yX9_noItems, 3, 1), (yX9_isSo, 5, 1), (yX9_fits, 5, 1), (yX9_costs, 3, 1), (yX9_colds, 2, 1), (yX9_drawn, 3, 1), (yX9_image, 1, 1)]
def am_hs7 : List (MethodName × Nat × Nat) := [(yX9_restore, 1, 1), (yX9_kind, 1, 1), (yX9_isOf, 2, 1), (yX9_as, 2, 1), (yX9_begin, 1, 1), (yX9_lentSize, 1, 1), (yX9_plainSize, 1, 1), (yX9_mildSize, 1, 1), (yX9_sizeOf, 1, 1), (yX9_lentMark, 1, 1), (yX9_plainMark, 1, 1), (yX9_mark, 1, 1), (yX9_mildMark, 1, 1), (yX9_ask, 2, 1), (yX9_trace, 1, 1), (yX9_count, 1, 1), (yX9_status, 0, 1), (yJ6_bitCount_0f7a4, 1, 0), (yJ9_max_7cf53, 2, 0), (yJ9_min_7cf53, 2, 0)]
def am_hs : List (MethodName × Nat × Nat) := am_hs0 ++ (am_hs1 ++ (am_hs2 ++ (am_hs3 ++ (am_hs4 ++ (am_hs5 ++ (am_hs6 ++ (am_hs7)))))))
def am_mt (j : Nat) : Option (MethodName × Nat × Nat) := am_hs[j]?
def am_t_X0_init_0 : List (Option am_I) := [some (.aload_n 0, 1, 0, 0, 0, 0, 0, 0, []), some (.invokespecial 5, 4, 2, 0, 0, 213, 0, 0, []), none, none, some (.aload_n 0, 5, 0, 0, 0, 0, 0, 0, []), some (.sipush 240, 8, 0, 0, 0, 0, 240, 0, []), none, none, some (.newarray .int, 10, 0, 0, 240, 0, 0, 0, []), none, some (.putfield 11, 13, 2, 0, 0, 214, 0, 0, []), none, none, some (.return_, 14, 0, 0, 0, 0, 0, 0, [])]
def am_t_X0_init : am_T := [am_t_X0_init_0]
theorem am_q_X0_init_0 : am_okQ (am_ok1 am_mt yX0_init.cls yX0_init.name cX0_init 1 none) 0 am_t_X0_init_0 = true := by decide +kernel
theorem am_q_X0_init : am_okT (am_ok1 am_mt yX0_init.cls yX0_init.name cX0_init 1 none) 0 am_t_X0_init = true := am_okT_c am_q_X0_init_0 (rfl)
def am_m_X0_init : am_M := (yX0_init, cX0_init, 1, none, 2, 212, 85, 211, 0, 0, am_t_X0_init)
theorem am_k_X0_init : am_okM am_mt am_m_X0_init := ⟨by decide +kernel, am_q_X0_init⟩
def am_t_X0_forget_0 : List (Option am_I) := [some (.aload_n 0, 1, 0, 0, 0, 0, 0, 0, []), some (.iconst 0, 2, 0, 0, 0, 0, 0, 0, []), some (.putfield 15, 5, 0, 0, 1, 215, 0, 0, []), none, none, some (.aload_n 0, 6, 0, 0, 0, 0, 0, 0, []), some (.iconst 0, 7, 0, 0, 0, 0, 0, 0, []), some (.putfield 19, 10, 0, 0, 2, 217, 0, 0, []), none, none, some (.return_, 11, 0, 0, 0, 0, 0, 0, [])]
def am_t_X0_forget : am_T := [am_t_X0_forget_0]
theorem am_q_X0_forget_0 : am_okQ (am_ok1 am_mt yX0_forget.cls yX0_forget.name cX0_forget 1 none) 0 am_t_X0_forget_0 = true := by decide +kernel
theorem am_q_X0_forget : am_okT (am_ok1 am_mt yX0_forget.cls yX0_forget.name cX0_forget 1 none) 0 am_t_X0_forget = true := am_okT_c am_q_X0_forget_0 (rfl)
def am_m_X0_forget : am_M := (yX0_forget, cX0_forget, 1, none, 1, 492, 85, 490, 491, 0, am_t_X0_forget)
theorem am_k_X0_forget : am_okM am_mt am_m_X0_forget := ⟨by decide +kernel, am_q_X0_forget⟩
def am_t_X0_keep_0 : List (Option am_I) := [some (.aload_n 0, 1, 0, 0, 0, 0, 0, 0, []), some (.getfield 19, 4, 0, 0, 2, 217, 0, 0, []), none, none, some (.bipush 10, 6, 0, 0, 0, 0, 10, 0, []), none, some (.imul, 7, 0, 0, 0, 0, 0, 0, []), some (.istore_n 2, 8, 0, 2, 0, 0, 0, 0, []), some (.aload_n 0, 9, 0, 0, 0, 0, 0, 0, []), some (.getfield 11, 12, 0, 0, 0, 214, 0, 0, []), none, none, some (.iload_n 2, 13, 0, 2, 0, 0, 0, 0, []), some (.iconst 0, 14, 0, 0, 0, 0, 0, 0, []), some (.iadd, 15, 0, 0, 0, 0, 0, 0, []), some (.aload_n 1, 16, 0, 1, 0, 0, 0, 0, [])]
def am_t_X0_keep_1 : List (Option am_I) := [some (.getfield 22, 19, 0, 3, 4, 141, 0, 0, []), none, none, some (.iastore, 20, 0, 0, 0, 0, 0, 0, []), some (.aload_n 0, 21, 0, 0, 0, 0, 0, 0, []), some (.getfield 11, 24, 0, 0, 0, 214, 0, 0, []), none, none, some (.iload_n 2, 25, 0, 2, 0, 0, 0, 0, []), some (.iconst 1, 26, 0, 0, 0, 0, 1, 0, []), some (.iadd, 27, 0, 0, 0, 0, 0, 0, []), some (.aload_n 1, 28, 0, 1, 0, 0, 0, 0, []), some (.getfield 27, 31, 0, 3, 5, 145, 0, 0, []), none, none, some (.iastore, 32, 0, 0, 0, 0, 0, 0, [])]
def am_t_X0_keep_2 : List (Option am_I) := [some (.iconst 0, 33, 0, 0, 0, 0, 0, 0, []), some (.istore_n 3, 34, 0, 3, 0, 0, 0, 0, []), some (.iload_n 3, 35, 0, 3, 0, 0, 0, 0, []), some (.iconst 4, 36, 0, 0, 0, 0, 4, 0, []), some (.if_icmp .ge 25, 39, 61, 0, 0, 0, 0, 0, []), none, none, some (.aload_n 0, 40, 0, 0, 0, 0, 0, 0, []), some (.getfield 11, 43, 0, 0, 0, 214, 0, 0, []), none, none, some (.iload_n 2, 44, 0, 2, 0, 0, 0, 0, []), some (.iconst 2, 45, 0, 0, 0, 0, 2, 0, []), some (.iadd, 46, 0, 0, 0, 0, 0, 0, []), some (.iload_n 3, 47, 0, 3, 0, 0, 0, 0, []), some (.iadd, 48, 0, 0, 0, 0, 0, 0, [])]
def am_t_X0_keep_3 : List (Option am_I) := [some (.aload_n 1, 49, 0, 1, 0, 0, 0, 0, []), some (.getfield 30, 52, 0, 3, 6, 148, 0, 0, []), none, none, some (.iload_n 3, 53, 0, 3, 0, 0, 0, 0, []), some (.iaload, 54, 0, 0, 0, 0, 0, 0, []), some (.iastore, 55, 0, 0, 0, 0, 0, 0, []), some (.iinc 3 1, 58, 0, 3, 0, 0, 1, 0, []), none, none, some (.goto (-24), 61, 34, 0, 0, 0, 0, 0, []), none, none, some (.iconst 0, 62, 0, 0, 0, 0, 0, 0, []), some (.istore_n 3, 63, 0, 3, 0, 0, 0, 0, []), some (.iload_n 3, 64, 0, 3, 0, 0, 0, 0, [])]
def am_t_X0_keep_4 : List (Option am_I) := [some (.iconst 4, 65, 0, 0, 0, 0, 4, 0, []), some (.if_icmp .ge 26, 68, 91, 0, 0, 0, 0, 0, []), none, none, some (.aload_n 0, 69, 0, 0, 0, 0, 0, 0, []), some (.getfield 11, 72, 0, 0, 0, 214, 0, 0, []), none, none, some (.iload_n 2, 73, 0, 2, 0, 0, 0, 0, []), some (.bipush 6, 75, 0, 0, 0, 0, 6, 0, []), none, some (.iadd, 76, 0, 0, 0, 0, 0, 0, []), some (.iload_n 3, 77, 0, 3, 0, 0, 0, 0, []), some (.iadd, 78, 0, 0, 0, 0, 0, 0, []), some (.aload_n 1, 79, 0, 1, 0, 0, 0, 0, []), some (.getfield 33, 82, 0, 3, 8, 157, 0, 0, [])]
def am_t_X0_keep_5 : List (Option am_I) := [none, none, some (.iload_n 3, 83, 0, 3, 0, 0, 0, 0, []), some (.iaload, 84, 0, 0, 0, 0, 0, 0, []), some (.iastore, 85, 0, 0, 0, 0, 0, 0, []), some (.iinc 3 1, 88, 0, 3, 0, 0, 1, 0, []), none, none, some (.goto (-25), 91, 63, 0, 0, 0, 0, 0, []), none, none, some (.aload_n 0, 92, 0, 0, 0, 0, 0, 0, []), some (.aload_n 0, 93, 0, 0, 0, 0, 0, 0, []), some (.getfield 19, 96, 0, 0, 2, 217, 0, 0, []), none, none]
def am_t_X0_keep_6 : List (Option am_I) := [some (.iconst 1, 97, 0, 0, 0, 0, 1, 0, []), some (.iadd, 98, 0, 0, 0, 0, 0, 0, []), some (.bipush 24, 100, 0, 0, 0, 0, 24, 0, []), none, some (.irem, 101, 0, 0, 0, 0, 0, 0, []), some (.putfield 19, 104, 0, 0, 2, 217, 0, 0, []), none, none, some (.aload_n 0, 105, 0, 0, 0, 0, 0, 0, []), some (.bipush 24, 107, 0, 0, 0, 0, 24, 0, []), none, some (.aload_n 0, 108, 0, 0, 0, 0, 0, 0, []), some (.getfield 15, 111, 0, 0, 1, 215, 0, 0, []), none, none, some (.iconst 1, 112, 0, 0, 0, 0, 1, 0, [])]
def am_t_X0_keep_7 : List (Option am_I) := [some (.iadd, 113, 0, 0, 0, 0, 0, 0, []), some (.invokestatic 36, 116, 0, 229, 2, 518, 0, 0, []), none, none, some (.putfield 15, 119, 0, 0, 1, 215, 0, 0, []), none, none, some (.return_, 120, 0, 0, 0, 0, 0, 0, [])]
def am_t_X0_keep : am_T := [am_t_X0_keep_0, am_t_X0_keep_1, am_t_X0_keep_2, am_t_X0_keep_3, am_t_X0_keep_4, am_t_X0_keep_5, am_t_X0_keep_6, am_t_X0_keep_7]
theorem am_q_X0_keep_0 : am_okQ (am_ok1 am_mt yX0_keep.cls yX0_keep.name cX0_keep 4 none) 0 am_t_X0_keep_0 = true := by decide +kernel
theorem am_q_X0_keep_1 : am_okQ (am_ok1 am_mt yX0_keep.cls yX0_keep.name cX0_keep 4 none) 1 am_t_X0_keep_1 = true := by decide +kernel
theorem am_q_X0_keep_2 : am_okQ (am_ok1 am_mt yX0_keep.cls yX0_keep.name cX0_keep 4 none) 2 am_t_X0_keep_2 = true := by decide +kernel
theorem am_q_X0_keep_3 : am_okQ (am_ok1 am_mt yX0_keep.cls yX0_keep.name cX0_keep 4 none) 3 am_t_X0_keep_3 = true := by decide +kernel
theorem am_q_X0_keep_4 : am_okQ (am_ok1 am_mt yX0_keep.cls yX0_keep.name cX0_keep 4 none) 4 am_t_X0_keep_4 = true := by decide +kernel
theorem am_q_X0_keep_5 : am_okQ (am_ok1 am_mt yX0_keep.cls yX0_keep.name cX0_keep 4 none) 5 am_t_X0_keep_5 = true := by decide +kernel
theorem am_q_X0_keep_6 : am_okQ (am_ok1 am_mt yX0_keep.cls yX0_keep.name cX0_keep 4 none) 6 am_t_X0_keep_6 = true := by decide +kernel
theorem am_q_X0_keep_7 : am_okQ (am_ok1 am_mt yX0_keep.cls yX0_keep.name cX0_keep 4 none) 7 am_t_X0_keep_7 = true := by decide +kernel
theorem am_q_X0_keep : am_okT (am_ok1 am_mt yX0_keep.cls yX0_keep.name cX0_keep 4 none) 0 am_t_X0_keep = true := am_okT_c am_q_X0_keep_0 (am_okT_c am_q_X0_keep_1 (am_okT_c am_q_X0_keep_2 (am_okT_c am_q_X0_keep_3 (am_okT_c am_q_X0_keep_4 (am_okT_c am_q_X0_keep_5 (am_okT_c am_q_X0_keep_6 (am_okT_c am_q_X0_keep_7 (rfl))))))))
def am_m_X0_keep : am_M := (yX0_keep, cX0_keep, 4, none, 1, 517, 85, 515, 516, 1, am_t_X0_keep)
theorem am_k_X0_keep : am_okM am_mt am_m_X0_keep := ⟨by decide +kernel, am_q_X0_keep⟩
def am_t_X0_giveBack_0 : List (Option am_I) := [some (.aload_n 0, 1, 0, 0, 0, 0, 0, 0, []), some (.getfield 15, 4, 0, 0, 1, 215, 0, 0, []), none, none, some (.ifCond .ne 4, 7, 8, 0, 0, 0, 0, 0, []), none, none, some (.return_, 8, 0, 0, 0, 0, 0, 0, []), some (.aload_n 0, 9, 0, 0, 0, 0, 0, 0, []), some (.dup, 10, 0, 0, 0, 0, 0, 0, []), some (.getfield 15, 13, 0, 0, 1, 215, 0, 0, []), none, none, some (.iconst 1, 14, 0, 0, 0, 0, 1, 0, []), some (.isub, 15, 0, 0, 0, 0, 0, 0, []), some (.putfield 15, 18, 0, 0, 1, 215, 0, 0, [])]
def am_t_X0_giveBack_1 : List (Option am_I) := [none, none, some (.aload_n 0, 19, 0, 0, 0, 0, 0, 0, []), some (.aload_n 0, 20, 0, 0, 0, 0, 0, 0, []), some (.getfield 19, 23, 0, 0, 2, 217, 0, 0, []), none, none, some (.bipush 24, 25, 0, 0, 0, 0, 24, 0, []), none, some (.iadd, 26, 0, 0, 0, 0, 0, 0, []), some (.iconst 1, 27, 0, 0, 0, 0, 1, 0, []), some (.isub, 28, 0, 0, 0, 0, 0, 0, []), some (.bipush 24, 30, 0, 0, 0, 0, 24, 0, []), none, some (.irem, 31, 0, 0, 0, 0, 0, 0, []), some (.putfield 19, 34, 0, 0, 2, 217, 0, 0, [])]
def am_t_X0_giveBack_2 : List (Option am_I) := [none, none, some (.aload_n 0, 35, 0, 0, 0, 0, 0, 0, []), some (.getfield 19, 38, 0, 0, 2, 217, 0, 0, []), none, none, some (.bipush 10, 40, 0, 0, 0, 0, 10, 0, []), none, some (.imul, 41, 0, 0, 0, 0, 0, 0, []), some (.istore_n 2, 42, 0, 2, 0, 0, 0, 0, []), some (.aload_n 1, 43, 0, 1, 0, 0, 0, 0, []), some (.aload_n 0, 44, 0, 0, 0, 0, 0, 0, []), some (.getfield 11, 47, 0, 0, 0, 214, 0, 0, []), none, none, some (.iload_n 2, 48, 0, 2, 0, 0, 0, 0, [])]
def am_t_X0_giveBack_3 : List (Option am_I) := [some (.iconst 0, 49, 0, 0, 0, 0, 0, 0, []), some (.iadd, 50, 0, 0, 0, 0, 0, 0, []), some (.iaload, 51, 0, 0, 0, 0, 0, 0, []), some (.putfield 22, 54, 0, 3, 4, 141, 0, 0, []), none, none, some (.aload_n 1, 55, 0, 1, 0, 0, 0, 0, []), some (.aload_n 0, 56, 0, 0, 0, 0, 0, 0, []), some (.getfield 11, 59, 0, 0, 0, 214, 0, 0, []), none, none, some (.iload_n 2, 60, 0, 2, 0, 0, 0, 0, []), some (.iconst 1, 61, 0, 0, 0, 0, 1, 0, []), some (.iadd, 62, 0, 0, 0, 0, 0, 0, []), some (.iaload, 63, 0, 0, 0, 0, 0, 0, []), some (.putfield 27, 66, 0, 3, 5, 145, 0, 0, [])]
def am_t_X0_giveBack_4 : List (Option am_I) := [none, none, some (.iconst 0, 67, 0, 0, 0, 0, 0, 0, []), some (.istore_n 3, 68, 0, 3, 0, 0, 0, 0, []), some (.iload_n 3, 69, 0, 3, 0, 0, 0, 0, []), some (.iconst 4, 70, 0, 0, 0, 0, 4, 0, []), some (.if_icmp .ge 25, 73, 95, 0, 0, 0, 0, 0, []), none, none, some (.aload_n 1, 74, 0, 1, 0, 0, 0, 0, []), some (.getfield 30, 77, 0, 3, 6, 148, 0, 0, []), none, none, some (.iload_n 3, 78, 0, 3, 0, 0, 0, 0, []), some (.aload_n 0, 79, 0, 0, 0, 0, 0, 0, []), some (.getfield 11, 82, 0, 0, 0, 214, 0, 0, [])]
def am_t_X0_giveBack_5 : List (Option am_I) := [none, none, some (.iload_n 2, 83, 0, 2, 0, 0, 0, 0, []), some (.iconst 2, 84, 0, 0, 0, 0, 2, 0, []), some (.iadd, 85, 0, 0, 0, 0, 0, 0, []), some (.iload_n 3, 86, 0, 3, 0, 0, 0, 0, []), some (.iadd, 87, 0, 0, 0, 0, 0, 0, []), some (.iaload, 88, 0, 0, 0, 0, 0, 0, []), some (.iastore, 89, 0, 0, 0, 0, 0, 0, []), some (.iinc 3 1, 92, 0, 3, 0, 0, 1, 0, []), none, none, some (.goto (-24), 95, 68, 0, 0, 0, 0, 0, []), none, none, some (.iconst 0, 96, 0, 0, 0, 0, 0, 0, [])]
def am_t_X0_giveBack_6 : List (Option am_I) := [some (.istore_n 3, 97, 0, 3, 0, 0, 0, 0, []), some (.iload_n 3, 98, 0, 3, 0, 0, 0, 0, []), some (.iconst 4, 99, 0, 0, 0, 0, 4, 0, []), some (.if_icmp .ge 26, 102, 125, 0, 0, 0, 0, 0, []), none, none, some (.aload_n 1, 103, 0, 1, 0, 0, 0, 0, []), some (.getfield 33, 106, 0, 3, 8, 157, 0, 0, []), none, none, some (.iload_n 3, 107, 0, 3, 0, 0, 0, 0, []), some (.aload_n 0, 108, 0, 0, 0, 0, 0, 0, []), some (.getfield 11, 111, 0, 0, 0, 214, 0, 0, []), none, none, some (.iload_n 2, 112, 0, 2, 0, 0, 0, 0, [])]
def am_t_X0_giveBack_7 : List (Option am_I) := [some (.bipush 6, 114, 0, 0, 0, 0, 6, 0, []), none, some (.iadd, 115, 0, 0, 0, 0, 0, 0, []), some (.iload_n 3, 116, 0, 3, 0, 0, 0, 0, []), some (.iadd, 117, 0, 0, 0, 0, 0, 0, []), some (.iaload, 118, 0, 0, 0, 0, 0, 0, []), some (.iastore, 119, 0, 0, 0, 0, 0, 0, []), some (.iinc 3 1, 122, 0, 3, 0, 0, 1, 0, []), none, none, some (.goto (-25), 125, 97, 0, 0, 0, 0, 0, []), none, none, some (.return_, 126, 0, 0, 0, 0, 0, 0, [])]
def am_t_X0_giveBack : am_T := [am_t_X0_giveBack_0, am_t_X0_giveBack_1, am_t_X0_giveBack_2, am_t_X0_giveBack_3, am_t_X0_giveBack_4, am_t_X0_giveBack_5, am_t_X0_giveBack_6, am_t_X0_giveBack_7]
theorem am_q_X0_giveBack_0 : am_okQ (am_ok1 am_mt yX0_giveBack.cls yX0_giveBack.name cX0_giveBack 4 none) 0 am_t_X0_giveBack_0 = true := by decide +kernel
theorem am_q_X0_giveBack_1 : am_okQ (am_ok1 am_mt yX0_giveBack.cls yX0_giveBack.name cX0_giveBack 4 none) 1 am_t_X0_giveBack_1 = true := by decide +kernel
theorem am_q_X0_giveBack_2 : am_okQ (am_ok1 am_mt yX0_giveBack.cls yX0_giveBack.name cX0_giveBack 4 none) 2 am_t_X0_giveBack_2 = true := by decide +kernel
theorem am_q_X0_giveBack_3 : am_okQ (am_ok1 am_mt yX0_giveBack.cls yX0_giveBack.name cX0_giveBack 4 none) 3 am_t_X0_giveBack_3 = true := by decide +kernel
theorem am_q_X0_giveBack_4 : am_okQ (am_ok1 am_mt yX0_giveBack.cls yX0_giveBack.name cX0_giveBack 4 none) 4 am_t_X0_giveBack_4 = true := by decide +kernel
theorem am_q_X0_giveBack_5 : am_okQ (am_ok1 am_mt yX0_giveBack.cls yX0_giveBack.name cX0_giveBack 4 none) 5 am_t_X0_giveBack_5 = true := by decide +kernel
theorem am_q_X0_giveBack_6 : am_okQ (am_ok1 am_mt yX0_giveBack.cls yX0_giveBack.name cX0_giveBack 4 none) 6 am_t_X0_giveBack_6 = true := by decide +kernel
theorem am_q_X0_giveBack_7 : am_okQ (am_ok1 am_mt yX0_giveBack.cls yX0_giveBack.name cX0_giveBack 4 none) 7 am_t_X0_giveBack_7 = true := by decide +kernel
theorem am_q_X0_giveBack : am_okT (am_ok1 am_mt yX0_giveBack.cls yX0_giveBack.name cX0_giveBack 4 none) 0 am_t_X0_giveBack = true := am_okT_c am_q_X0_giveBack_0 (am_okT_c am_q_X0_giveBack_1 (am_okT_c am_q_X0_giveBack_2 (am_okT_c am_q_X0_giveBack_3 (am_okT_c am_q_X0_giveBack_4 (am_okT_c am_q_X0_giveBack_5 (am_okT_c am_q_X0_giveBack_6 (am_okT_c am_q_X0_giveBack_7 (rfl))))))))
def am_m_X0_giveBack : am_M := (yX0_giveBack, cX0_giveBack, 4, none, 1, 579, 85, 577, 578, 1, am_t_X0_giveBack)
theorem am_k_X0_giveBack : am_okM am_mt am_m_X0_giveBack := ⟨by decide +kernel, am_q_X0_giveBack⟩
def am_t_X1_init_0 : List (Option am_I) := [some (.aload_n 0, 1, 0, 0, 0, 0, 0, 0, []), some (.invokespecial 3, 4, 2, 0, 0, 290, 0, 0, []), none, none, some (.aload_n 0, 5, 0, 0, 0, 0, 0, 0, []), some (.bipush 16, 7, 0, 0, 0, 0, 16, 0, []), none, some (.newarray .int, 9, 0, 0, 16, 0, 0, 0, []), none, some (.putfield 9, 12, 2, 1, 1, 292, 0, 0, []), none, none, some (.aload_n 0, 13, 0, 0, 0, 0, 0, 0, []), some (.aload_n 1, 14, 0, 1, 0, 0, 0, 0, []), some (.putfield 15, 17, 2, 1, 0, 291, 0, 0, []), none]
def am_t_X1_init_1 : List (Option am_I) := [none, some (.return_, 18, 0, 0, 0, 0, 0, 0, [])]
def am_t_X1_init : am_T := [am_t_X1_init_0, am_t_X1_init_1]
theorem am_q_X1_init_0 : am_okQ (am_ok1 am_mt yX1_init.cls yX1_init.name cX1_init 2 none) 0 am_t_X1_init_0 = true := by decide +kernel
theorem am_q_X1_init_1 : am_okQ (am_ok1 am_mt yX1_init.cls yX1_init.name cX1_init 2 none) 1 am_t_X1_init_1 = true := by decide +kernel
theorem am_q_X1_init : am_okT (am_ok1 am_mt yX1_init.cls yX1_init.name cX1_init 2 none) 0 am_t_X1_init = true := am_okT_c am_q_X1_init_0 (am_okT_c am_q_X1_init_1 (rfl))
def am_m_X1_init : am_M := (yX1_init, cX1_init, 2, none, 2, 289, 89, 288, 0, 1, am_t_X1_init)
theorem am_k_X1_init : am_okM am_mt am_m_X1_init := ⟨by decide +kernel, am_q_X1_init⟩
def am_t_X1_sizeOf_0 : List (Option am_I) := [some (.aload_n 0, 1, 0, 0, 0, 0, 0, 0, []), some (.iload_n 1, 2, 0, 1, 0, 0, 0, 0, []), some (.invokevirtual 19, 5, 1, 8, 1, 819, 0, 0, []), none, none, some (.aload_n 0, 6, 0, 0, 0, 0, 0, 0, []), some (.invokevirtual 23, 9, 1, 10, 0, 823, 0, 0, []), none, none, some (.ifCond .eq 10, 12, 19, 0, 0, 0, 0, 0, []), none, none, some (.aload_n 0, 13, 0, 0, 0, 0, 0, 0, []), some (.invokevirtual 27, 16, 1, 17, 0, 828, 0, 0, []), none, none]
def am_t_X1_sizeOf_1 : List (Option am_I) := [some (.goto 7, 19, 23, 0, 0, 0, 0, 0, []), none, none, some (.aload_n 0, 20, 0, 0, 0, 0, 0, 0, []), some (.invokevirtual 31, 23, 1, 13, 0, 844, 0, 0, []), none, none, some (.ireturn, 24, 0, 0, 0, 0, 0, 0, [])]
def am_t_X1_sizeOf : am_T := [am_t_X1_sizeOf_0, am_t_X1_sizeOf_1]
theorem am_q_X1_sizeOf_0 : am_okQ (am_ok1 am_mt yX1_sizeOf.cls yX1_sizeOf.name cX1_sizeOf 2 (some .int)) 0 am_t_X1_sizeOf_0 = true := by decide +kernel
theorem am_q_X1_sizeOf_1 : am_okQ (am_ok1 am_mt yX1_sizeOf.cls yX1_sizeOf.name cX1_sizeOf 2 (some .int)) 1 am_t_X1_sizeOf_1 = true := by decide +kernel
theorem am_q_X1_sizeOf : am_okT (am_ok1 am_mt yX1_sizeOf.cls yX1_sizeOf.name cX1_sizeOf 2 (some .int)) 0 am_t_X1_sizeOf = true := am_okT_c am_q_X1_sizeOf_0 (am_okT_c am_q_X1_sizeOf_1 (rfl))
def am_m_X1_sizeOf : am_M := (yX1_sizeOf, cX1_sizeOf, 2, (some .int), 1, 818, 89, 816, 817, 1, am_t_X1_sizeOf)
theorem am_k_X1_sizeOf : am_okM am_mt am_m_X1_sizeOf := ⟨by decide +kernel, am_q_X1_sizeOf⟩
def am_t_X1_markOf_0 : List (Option am_I) := [some (.aload_n 0, 1, 0, 0, 0, 0, 0, 0, []), some (.iload_n 1, 2, 0, 1, 0, 0, 0, 0, []), some (.invokevirtual 19, 5, 1, 8, 1, 819, 0, 0, []), none, none, some (.aload_n 0, 6, 0, 0, 0, 0, 0, 0, []), some (.invokevirtual 23, 9, 1, 10, 0, 823, 0, 0, []), none, none, some (.ifCond .eq 10, 12, 19, 0, 0, 0, 0, 0, []), none, none, some (.aload_n 0, 13, 0, 0, 0, 0, 0, 0, []), some (.invokevirtual 34, 16, 1, 19, 0, 868, 0, 0, []), none, none]
def am_t_X1_markOf_1 : List (Option am_I) := [some (.goto 7, 19, 23, 0, 0, 0, 0, 0, []), none, none, some (.aload_n 0, 20, 0, 0, 0, 0, 0, 0, []), some (.invokevirtual 37, 23, 1, 15, 0, 852, 0, 0, []), none, none, some (.ireturn, 24, 0, 0, 0, 0, 0, 0, [])]
def am_t_X1_markOf : am_T := [am_t_X1_markOf_0, am_t_X1_markOf_1]
theorem am_q_X1_markOf_0 : am_okQ (am_ok1 am_mt yX1_markOf.cls yX1_markOf.name cX1_markOf 2 (some .int)) 0 am_t_X1_markOf_0 = true := by decide +kernel
theorem am_q_X1_markOf_1 : am_okQ (am_ok1 am_mt yX1_markOf.cls yX1_markOf.name cX1_markOf 2 (some .int)) 1 am_t_X1_markOf_1 = true := by decide +kernel
theorem am_q_X1_markOf : am_okT (am_ok1 am_mt yX1_markOf.cls yX1_markOf.name cX1_markOf 2 (some .int)) 0 am_t_X1_markOf = true := am_okT_c am_q_X1_markOf_0 (am_okT_c am_q_X1_markOf_1 (rfl))
def am_m_X1_markOf : am_M := (yX1_markOf, cX1_markOf, 2, (some .int), 1, 867, 89, 865, 866, 1, am_t_X1_markOf)
theorem am_k_X1_markOf : am_okM am_mt am_m_X1_markOf := ⟨by decide +kernel, am_q_X1_markOf⟩
def am_t_X1_traceAt_0 : List (Option am_I) := [some (.iload_n 1, 1, 0, 1, 0, 0, 0, 0, []), some (.ifCond .lt 20, 4, 21, 0, 0, 0, 0, 0, []), none, none, some (.iload_n 1, 5, 0, 1, 0, 0, 0, 0, []), some (.aload_n 0, 6, 0, 0, 0, 0, 0, 0, []), some (.getfield 40, 9, 0, 1, 2, 293, 0, 0, []), none, none, some (.if_icmp .ge 12, 12, 21, 0, 0, 0, 0, 0, []), none, none, some (.aload_n 0, 13, 0, 0, 0, 0, 0, 0, []), some (.getfield 9, 16, 0, 1, 1, 292, 0, 0, []), none, none]
def am_t_X1_traceAt_1 : List (Option am_I) := [some (.iload_n 1, 17, 0, 1, 0, 0, 0, 0, []), some (.iaload, 18, 0, 0, 0, 0, 0, 0, []), some (.goto 5, 21, 23, 0, 0, 0, 0, 0, []), none, none, some (.ldc 44, 23, 0, 0, 0, 880, (-1000000), 0, []), none, some (.ireturn, 24, 0, 0, 0, 0, 0, 0, [])]
def am_t_X1_traceAt : am_T := [am_t_X1_traceAt_0, am_t_X1_traceAt_1]
theorem am_q_X1_traceAt_0 : am_okQ (am_ok1 am_mt yX1_traceAt.cls yX1_traceAt.name cX1_traceAt 2 (some .int)) 0 am_t_X1_traceAt_0 = true := by decide +kernel
theorem am_q_X1_traceAt_1 : am_okQ (am_ok1 am_mt yX1_traceAt.cls yX1_traceAt.name cX1_traceAt 2 (some .int)) 1 am_t_X1_traceAt_1 = true := by decide +kernel
theorem am_q_X1_traceAt : am_okT (am_ok1 am_mt yX1_traceAt.cls yX1_traceAt.name cX1_traceAt 2 (some .int)) 0 am_t_X1_traceAt = true := am_okT_c am_q_X1_traceAt_0 (am_okT_c am_q_X1_traceAt_1 (rfl))
def am_m_X1_traceAt : am_M := (yX1_traceAt, cX1_traceAt, 2, (some .int), 1, 879, 89, 877, 878, 1, am_t_X1_traceAt)
theorem am_k_X1_traceAt : am_okM am_mt am_m_X1_traceAt := ⟨by decide +kernel, am_q_X1_traceAt⟩
def am_t_X1_begin_0 : List (Option am_I) := [some (.aload_n 0, 1, 0, 0, 0, 0, 0, 0, []), some (.iconst 0, 2, 0, 0, 0, 0, 0, 0, []), some (.putfield 40, 5, 0, 1, 2, 293, 0, 0, []), none, none, some (.aload_n 0, 6, 0, 0, 0, 0, 0, 0, []), some (.iload_n 1, 7, 0, 1, 0, 0, 0, 0, []), some (.putfield 45, 10, 0, 1, 3, 294, 0, 0, []), none, none, some (.return_, 11, 0, 0, 0, 0, 0, 0, [])]
def am_t_X1_begin : am_T := [am_t_X1_begin_0]
theorem am_q_X1_begin_0 : am_okQ (am_ok1 am_mt yX1_begin.cls yX1_begin.name cX1_begin 2 none) 0 am_t_X1_begin_0 = true := by decide +kernel
theorem am_q_X1_begin : am_okT (am_ok1 am_mt yX1_begin.cls yX1_begin.name cX1_begin 2 none) 0 am_t_X1_begin = true := am_okT_c am_q_X1_begin_0 (rfl)
def am_m_X1_begin : am_M := (yX1_begin, cX1_begin, 2, none, 1, 822, 89, 821, 22, 1, am_t_X1_begin)
theorem am_k_X1_begin : am_okM am_mt am_m_X1_begin := ⟨by decide +kernel, am_q_X1_begin⟩
def am_t_X1_leave_0 : List (Option am_I) := [some (.aload_n 0, 1, 0, 0, 0, 0, 0, 0, []), some (.getfield 40, 4, 0, 1, 2, 293, 0, 0, []), none, none, some (.bipush 16, 6, 0, 0, 0, 0, 16, 0, []), none, some (.if_icmp .ge 23, 9, 29, 0, 0, 0, 0, 0, []), none, none, some (.aload_n 0, 10, 0, 0, 0, 0, 0, 0, []), some (.getfield 9, 13, 0, 1, 1, 292, 0, 0, []), none, none, some (.aload_n 0, 14, 0, 0, 0, 0, 0, 0, []), some (.getfield 40, 17, 0, 1, 2, 293, 0, 0, []), none]
def am_t_X1_leave_1 : List (Option am_I) := [none, some (.iload_n 1, 18, 0, 1, 0, 0, 0, 0, []), some (.iastore, 19, 0, 0, 0, 0, 0, 0, []), some (.aload_n 0, 20, 0, 0, 0, 0, 0, 0, []), some (.dup, 21, 0, 0, 0, 0, 0, 0, []), some (.getfield 40, 24, 0, 1, 2, 293, 0, 0, []), none, none, some (.iconst 1, 25, 0, 0, 0, 0, 1, 0, []), some (.iadd, 26, 0, 0, 0, 0, 0, 0, []), some (.putfield 40, 29, 0, 1, 2, 293, 0, 0, []), none, none, some (.return_, 30, 0, 0, 0, 0, 0, 0, [])]
def am_t_X1_leave : am_T := [am_t_X1_leave_0, am_t_X1_leave_1]
theorem am_q_X1_leave_0 : am_okQ (am_ok1 am_mt yX1_leave.cls yX1_leave.name cX1_leave 2 none) 0 am_t_X1_leave_0 = true := by decide +kernel
theorem am_q_X1_leave_1 : am_okQ (am_ok1 am_mt yX1_leave.cls yX1_leave.name cX1_leave 2 none) 1 am_t_X1_leave_1 = true := by decide +kernel
theorem am_q_X1_leave : am_okT (am_ok1 am_mt yX1_leave.cls yX1_leave.name cX1_leave 2 none) 0 am_t_X1_leave = true := am_okT_c am_q_X1_leave_0 (am_okT_c am_q_X1_leave_1 (rfl))
def am_m_X1_leave : am_M := (yX1_leave, cX1_leave, 2, none, 1, 835, 89, 834, 25, 1, am_t_X1_leave)
theorem am_k_X1_leave : am_okM am_mt am_m_X1_leave := ⟨by decide +kernel, am_q_X1_leave⟩
def am_t_X1_isMild_0 : List (Option am_I) := [some (.aload_n 0, 1, 0, 0, 0, 0, 0, 0, []), some (.getfield 15, 4, 0, 1, 0, 291, 0, 0, []), none, none, some (.getfield 48, 7, 0, 3, 7, 153, 0, 0, []), none, none, some (.aload_n 0, 8, 0, 0, 0, 0, 0, 0, []), some (.getfield 45, 11, 0, 1, 3, 294, 0, 0, []), none, none, some (.iaload, 12, 0, 0, 0, 0, 0, 0, []), some (.iconst 4, 13, 0, 0, 0, 0, 4, 0, []), some (.invokestatic 53, 16, 1, 132, 2, 827, 0, 0, []), none, none]
def am_t_X1_isMild_1 : List (Option am_I) := [some (.ireturn, 17, 1, 0, 0, 0, 0, 0, [])]
def am_t_X1_isMild : am_T := [am_t_X1_isMild_0, am_t_X1_isMild_1]
theorem am_q_X1_isMild_0 : am_okQ (am_ok1 am_mt yX1_isMild.cls yX1_isMild.name cX1_isMild 1 (some .boolean)) 0 am_t_X1_isMild_0 = true := by decide +kernel
theorem am_q_X1_isMild_1 : am_okQ (am_ok1 am_mt yX1_isMild.cls yX1_isMild.name cX1_isMild 1 (some .boolean)) 1 am_t_X1_isMild_1 = true := by decide +kernel
theorem am_q_X1_isMild : am_okT (am_ok1 am_mt yX1_isMild.cls yX1_isMild.name cX1_isMild 1 (some .boolean)) 0 am_t_X1_isMild = true := am_okT_c am_q_X1_isMild_0 (am_okT_c am_q_X1_isMild_1 (rfl))
def am_m_X1_isMild : am_M := (yX1_isMild, cX1_isMild, 1, (some .boolean), 1, 826, 89, 825, 23, 0, am_t_X1_isMild)
theorem am_k_X1_isMild : am_okM am_mt am_m_X1_isMild := ⟨by decide +kernel, am_q_X1_isMild⟩
def am_t_X1_lentSize_0 : List (Option am_I) := [some (.aload_n 0, 1, 0, 0, 0, 0, 0, 0, []), some (.bipush 10, 3, 0, 0, 0, 0, 10, 0, []), none, some (.invokevirtual 57, 6, 1, 9, 1, 832, 0, 0, []), none, none, some (.aload_n 0, 7, 0, 0, 0, 0, 0, 0, []), some (.getfield 15, 10, 0, 1, 0, 291, 0, 0, []), none, none, some (.getfield 60, 13, 0, 3, 9, 163, 0, 0, []), none, none, some (.aload_n 0, 14, 0, 0, 0, 0, 0, 0, []), some (.getfield 45, 17, 0, 1, 3, 294, 0, 0, []), none]
def am_t_X1_lentSize_1 : List (Option am_I) := [none, some (.iaload, 18, 0, 0, 0, 0, 0, 0, []), some (.ireturn, 19, 0, 0, 0, 0, 0, 0, [])]
def am_t_X1_lentSize : am_T := [am_t_X1_lentSize_0, am_t_X1_lentSize_1]
theorem am_q_X1_lentSize_0 : am_okQ (am_ok1 am_mt yX1_lentSize.cls yX1_lentSize.name cX1_lentSize 1 (some .int)) 0 am_t_X1_lentSize_0 = true := by decide +kernel
theorem am_q_X1_lentSize_1 : am_okQ (am_ok1 am_mt yX1_lentSize.cls yX1_lentSize.name cX1_lentSize 1 (some .int)) 1 am_t_X1_lentSize_1 = true := by decide +kernel
theorem am_q_X1_lentSize : am_okT (am_ok1 am_mt yX1_lentSize.cls yX1_lentSize.name cX1_lentSize 1 (some .int)) 0 am_t_X1_lentSize = true := am_okT_c am_q_X1_lentSize_0 (am_okT_c am_q_X1_lentSize_1 (rfl))
def am_m_X1_lentSize : am_M := (yX1_lentSize, cX1_lentSize, 1, (some .int), 1, 843, 89, 842, 27, 0, am_t_X1_lentSize)
theorem am_k_X1_lentSize : am_okM am_mt am_m_X1_lentSize := ⟨by decide +kernel, am_q_X1_lentSize⟩
def am_t_X1_lentMark_0 : List (Option am_I) := [some (.aload_n 0, 1, 0, 0, 0, 0, 0, 0, []), some (.bipush 20, 3, 0, 0, 0, 0, 20, 0, []), none, some (.invokevirtual 57, 6, 1, 9, 1, 832, 0, 0, []), none, none, some (.aload_n 0, 7, 0, 0, 0, 0, 0, 0, []), some (.getfield 45, 10, 0, 1, 3, 294, 0, 0, []), none, none, some (.ireturn, 11, 0, 0, 0, 0, 0, 0, [])]
def am_t_X1_lentMark : am_T := [am_t_X1_lentMark_0]
theorem am_q_X1_lentMark_0 : am_okQ (am_ok1 am_mt yX1_lentMark.cls yX1_lentMark.name cX1_lentMark 1 (some .int)) 0 am_t_X1_lentMark_0 = true := by decide +kernel
theorem am_q_X1_lentMark : am_okT (am_ok1 am_mt yX1_lentMark.cls yX1_lentMark.name cX1_lentMark 1 (some .int)) 0 am_t_X1_lentMark = true := am_okT_c am_q_X1_lentMark_0 (rfl)
def am_m_X1_lentMark : am_M := (yX1_lentMark, cX1_lentMark, 1, (some .int), 1, 863, 89, 862, 32, 0, am_t_X1_lentMark)
theorem am_k_X1_lentMark : am_okM am_mt am_m_X1_lentMark := ⟨by decide +kernel, am_q_X1_lentMark⟩
def am_t_X1_plainSize_0 : List (Option am_I) := [some (.aload_n 0, 1, 0, 0, 0, 0, 0, 0, []), some (.getfield 15, 4, 0, 1, 0, 291, 0, 0, []), none, none, some (.getfield 48, 7, 0, 3, 7, 153, 0, 0, []), none, none, some (.aload_n 0, 8, 0, 0, 0, 0, 0, 0, []), some (.getfield 45, 11, 0, 1, 3, 294, 0, 0, []), none, none, some (.iaload, 12, 0, 0, 0, 0, 0, 0, []), some (.iconst 2, 13, 0, 0, 0, 0, 2, 0, []), some (.if_icmp .ne 16, 16, 29, 0, 0, 0, 0, 0, []), none, none]
def am_t_X1_plainSize_1 : List (Option am_I) := [some (.aload_n 0, 17, 0, 0, 0, 0, 0, 0, []), some (.bipush 12, 19, 0, 0, 0, 0, 12, 0, []), none, some (.invokevirtual 57, 22, 1, 9, 1, 832, 0, 0, []), none, none, some (.iconst 0, 23, 0, 0, 0, 0, 0, 0, []), some (.aload_n 0, 24, 0, 0, 0, 0, 0, 0, []), some (.invokevirtual 63, 27, 1, 14, 0, 848, 0, 0, []), none, none, some (.isub, 28, 0, 0, 0, 0, 0, 0, []), some (.ireturn, 29, 0, 0, 0, 0, 0, 0, []), some (.aload_n 0, 30, 0, 0, 0, 0, 0, 0, []), some (.invokevirtual 63, 33, 1, 14, 0, 848, 0, 0, []), none]
def am_t_X1_plainSize_2 : List (Option am_I) := [none, some (.ireturn, 34, 0, 0, 0, 0, 0, 0, [])]
def am_t_X1_plainSize : am_T := [am_t_X1_plainSize_0, am_t_X1_plainSize_1, am_t_X1_plainSize_2]
theorem am_q_X1_plainSize_0 : am_okQ (am_ok1 am_mt yX1_plainSize.cls yX1_plainSize.name cX1_plainSize 1 (some .int)) 0 am_t_X1_plainSize_0 = true := by decide +kernel
theorem am_q_X1_plainSize_1 : am_okQ (am_ok1 am_mt yX1_plainSize.cls yX1_plainSize.name cX1_plainSize 1 (some .int)) 1 am_t_X1_plainSize_1 = true := by decide +kernel
theorem am_q_X1_plainSize_2 : am_okQ (am_ok1 am_mt yX1_plainSize.cls yX1_plainSize.name cX1_plainSize 1 (some .int)) 2 am_t_X1_plainSize_2 = true := by decide +kernel
theorem am_q_X1_plainSize : am_okT (am_ok1 am_mt yX1_plainSize.cls yX1_plainSize.name cX1_plainSize 1 (some .int)) 0 am_t_X1_plainSize = true := am_okT_c am_q_X1_plainSize_0 (am_okT_c am_q_X1_plainSize_1 (am_okT_c am_q_X1_plainSize_2 (rfl)))
def am_m_X1_plainSize : am_M := (yX1_plainSize, cX1_plainSize, 1, (some .int), 1, 847, 89, 846, 28, 0, am_t_X1_plainSize)
theorem am_k_X1_plainSize : am_okM am_mt am_m_X1_plainSize := ⟨by decide +kernel, am_q_X1_plainSize⟩
def am_t_X1_sizeOfAnyPlain_0 : List (Option am_I) := [some (.aload_n 0, 1, 0, 0, 0, 0, 0, 0, []), some (.bipush 11, 3, 0, 0, 0, 0, 11, 0, []), none, some (.invokevirtual 57, 6, 1, 9, 1, 832, 0, 0, []), none, none, some (.aload_n 0, 7, 0, 0, 0, 0, 0, 0, []), some (.invokevirtual 66, 10, 1, 11, 0, 840, 0, 0, []), none, none, some (.aload_n 0, 11, 0, 0, 0, 0, 0, 0, []), some (.invokevirtual 37, 14, 1, 15, 0, 852, 0, 0, []), none, none, some (.iadd, 15, 0, 0, 0, 0, 0, 0, []), some (.ireturn, 16, 0, 0, 0, 0, 0, 0, [])]
def am_t_X1_sizeOfAnyPlain : am_T := [am_t_X1_sizeOfAnyPlain_0]
theorem am_q_X1_sizeOfAnyPlain_0 : am_okQ (am_ok1 am_mt yX1_sizeOfAnyPlain.cls yX1_sizeOfAnyPlain.name cX1_sizeOfAnyPlain 1 (some .int)) 0 am_t_X1_sizeOfAnyPlain_0 = true := by decide +kernel
theorem am_q_X1_sizeOfAnyPlain : am_okT (am_ok1 am_mt yX1_sizeOfAnyPlain.cls yX1_sizeOfAnyPlain.name cX1_sizeOfAnyPlain 1 (some .int)) 0 am_t_X1_sizeOfAnyPlain = true := am_okT_c am_q_X1_sizeOfAnyPlain_0 (rfl)
def am_m_X1_sizeOfAnyPlain : am_M := (yX1_sizeOfAnyPlain, cX1_sizeOfAnyPlain, 1, (some .int), 1, 851, 89, 850, 29, 0, am_t_X1_sizeOfAnyPlain)
theorem am_k_X1_sizeOfAnyPlain : am_okM am_mt am_m_X1_sizeOfAnyPlain := ⟨by decide +kernel, am_q_X1_sizeOfAnyPlain⟩
def am_t_X1_plainMark_0 : List (Option am_I) := [some (.aload_n 0, 1, 0, 0, 0, 0, 0, 0, []), some (.getfield 15, 4, 0, 1, 0, 291, 0, 0, []), none, none, some (.getfield 48, 7, 0, 3, 7, 153, 0, 0, []), none, none, some (.aload_n 0, 8, 0, 0, 0, 0, 0, 0, []), some (.getfield 45, 11, 0, 1, 3, 294, 0, 0, []), none, none, some (.iaload, 12, 0, 0, 0, 0, 0, 0, []), some (.lookupswitch 56 #[(2, 43), (3, 28)], 40, 68, 0, 0, 0, 0, 0, [(2, 55), (3, 40)]), none, none, none]
def am_t_X1_plainMark_1 : List (Option am_I) := [none, none, none, none, none, none, none, none, none, none, none, none, none, none, none, none]
def am_t_X1_plainMark_2 : List (Option am_I) := [none, none, none, none, none, none, none, none, some (.aload_n 0, 41, 0, 0, 0, 0, 0, 0, []), some (.bipush 22, 43, 0, 0, 0, 0, 22, 0, []), none, some (.invokevirtual 57, 46, 1, 9, 1, 832, 0, 0, []), none, none, some (.aload_n 0, 47, 0, 0, 0, 0, 0, 0, []), some (.invokevirtual 69, 50, 1, 16, 0, 856, 0, 0, [])]
def am_t_X1_plainMark_3 : List (Option am_I) := [none, none, some (.sipush 1000, 53, 0, 0, 0, 0, 1000, 0, []), none, none, some (.isub, 54, 0, 0, 0, 0, 0, 0, []), some (.ireturn, 55, 0, 0, 0, 0, 0, 0, []), some (.aload_n 0, 56, 0, 0, 0, 0, 0, 0, []), some (.bipush 24, 58, 0, 0, 0, 0, 24, 0, []), none, some (.invokevirtual 57, 61, 1, 9, 1, 832, 0, 0, []), none, none, some (.aload_n 0, 62, 0, 0, 0, 0, 0, 0, []), some (.invokevirtual 69, 65, 1, 16, 0, 856, 0, 0, []), none]
def am_t_X1_plainMark_4 : List (Option am_I) := [none, some (.iconst 2, 66, 0, 0, 0, 0, 2, 0, []), some (.imul, 67, 0, 0, 0, 0, 0, 0, []), some (.ireturn, 68, 0, 0, 0, 0, 0, 0, []), some (.aload_n 0, 69, 0, 0, 0, 0, 0, 0, []), some (.invokevirtual 69, 72, 1, 16, 0, 856, 0, 0, []), none, none, some (.ireturn, 73, 0, 0, 0, 0, 0, 0, [])]
def am_t_X1_plainMark : am_T := [am_t_X1_plainMark_0, am_t_X1_plainMark_1, am_t_X1_plainMark_2, am_t_X1_plainMark_3, am_t_X1_plainMark_4]
theorem am_q_X1_plainMark_0 : am_okQ (am_ok1 am_mt yX1_plainMark.cls yX1_plainMark.name cX1_plainMark 1 (some .int)) 0 am_t_X1_plainMark_0 = true := by decide +kernel
theorem am_q_X1_plainMark_1 : am_okQ (am_ok1 am_mt yX1_plainMark.cls yX1_plainMark.name cX1_plainMark 1 (some .int)) 1 am_t_X1_plainMark_1 = true := by decide +kernel
theorem am_q_X1_plainMark_2 : am_okQ (am_ok1 am_mt yX1_plainMark.cls yX1_plainMark.name cX1_plainMark 1 (some .int)) 2 am_t_X1_plainMark_2 = true := by decide +kernel
theorem am_q_X1_plainMark_3 : am_okQ (am_ok1 am_mt yX1_plainMark.cls yX1_plainMark.name cX1_plainMark 1 (some .int)) 3 am_t_X1_plainMark_3 = true := by decide +kernel
theorem am_q_X1_plainMark_4 : am_okQ (am_ok1 am_mt yX1_plainMark.cls yX1_plainMark.name cX1_plainMark 1 (some .int)) 4 am_t_X1_plainMark_4 = true := by decide +kernel
theorem am_q_X1_plainMark : am_okT (am_ok1 am_mt yX1_plainMark.cls yX1_plainMark.name cX1_plainMark 1 (some .int)) 0 am_t_X1_plainMark = true := am_okT_c am_q_X1_plainMark_0 (am_okT_c am_q_X1_plainMark_1 (am_okT_c am_q_X1_plainMark_2 (am_okT_c am_q_X1_plainMark_3 (am_okT_c am_q_X1_plainMark_4 (rfl)))))
def am_m_X1_plainMark : am_M := (yX1_plainMark, cX1_plainMark, 1, (some .int), 1, 855, 89, 854, 30, 0, am_t_X1_plainMark)
theorem am_k_X1_plainMark : am_okM am_mt am_m_X1_plainMark := ⟨by decide +kernel, am_q_X1_plainMark⟩
def am_t_X1_markOfAnyPlain_0 : List (Option am_I) := [some (.aload_n 0, 1, 0, 0, 0, 0, 0, 0, []), some (.bipush 21, 3, 0, 0, 0, 0, 21, 0, []), none, some (.invokevirtual 57, 6, 1, 9, 1, 832, 0, 0, []), none, none, some (.aload_n 0, 7, 0, 0, 0, 0, 0, 0, []), some (.invokevirtual 72, 10, 1, 12, 0, 860, 0, 0, []), none, none, some (.aload_n 0, 11, 0, 0, 0, 0, 0, 0, []), some (.getfield 15, 14, 0, 1, 0, 291, 0, 0, []), none, none, some (.getfield 75, 17, 0, 3, 8, 161, 0, 0, []), none]
def am_t_X1_markOfAnyPlain_1 : List (Option am_I) := [none, some (.aload_n 0, 18, 0, 0, 0, 0, 0, 0, []), some (.getfield 45, 21, 0, 1, 3, 294, 0, 0, []), none, none, some (.iaload, 22, 0, 0, 0, 0, 0, 0, []), some (.iadd, 23, 0, 0, 0, 0, 0, 0, []), some (.ireturn, 24, 0, 0, 0, 0, 0, 0, [])]
def am_t_X1_markOfAnyPlain : am_T := [am_t_X1_markOfAnyPlain_0, am_t_X1_markOfAnyPlain_1]
theorem am_q_X1_markOfAnyPlain_0 : am_okQ (am_ok1 am_mt yX1_markOfAnyPlain.cls yX1_markOfAnyPlain.name cX1_markOfAnyPlain 1 (some .int)) 0 am_t_X1_markOfAnyPlain_0 = true := by decide +kernel
theorem am_q_X1_markOfAnyPlain_1 : am_okQ (am_ok1 am_mt yX1_markOfAnyPlain.cls yX1_markOfAnyPlain.name cX1_markOfAnyPlain 1 (some .int)) 1 am_t_X1_markOfAnyPlain_1 = true := by decide +kernel
theorem am_q_X1_markOfAnyPlain : am_okT (am_ok1 am_mt yX1_markOfAnyPlain.cls yX1_markOfAnyPlain.name cX1_markOfAnyPlain 1 (some .int)) 0 am_t_X1_markOfAnyPlain = true := am_okT_c am_q_X1_markOfAnyPlain_0 (am_okT_c am_q_X1_markOfAnyPlain_1 (rfl))
def am_m_X1_markOfAnyPlain : am_M := (yX1_markOfAnyPlain, cX1_markOfAnyPlain, 1, (some .int), 1, 859, 89, 858, 31, 0, am_t_X1_markOfAnyPlain)
theorem am_k_X1_markOfAnyPlain : am_okM am_mt am_m_X1_markOfAnyPlain := ⟨by decide +kernel, am_q_X1_markOfAnyPlain⟩
def am_t_X1_mildSize_0 : List (Option am_I) := [some (.aload_n 0, 1, 0, 0, 0, 0, 0, 0, []), some (.getfield 15, 4, 0, 1, 0, 291, 0, 0, []), none, none, some (.getfield 48, 7, 0, 3, 7, 153, 0, 0, []), none, none, some (.aload_n 0, 8, 0, 0, 0, 0, 0, 0, []), some (.getfield 45, 11, 0, 1, 3, 294, 0, 0, []), none, none, some (.iaload, 12, 0, 0, 0, 0, 0, 0, []), some (.iconst 5, 13, 0, 0, 0, 0, 5, 0, []), some (.if_icmp .ne 16, 16, 29, 0, 0, 0, 0, 0, []), none, none]
def am_t_X1_mildSize_1 : List (Option am_I) := [some (.aload_n 0, 17, 0, 0, 0, 0, 0, 0, []), some (.bipush 14, 19, 0, 0, 0, 0, 14, 0, []), none, some (.invokevirtual 57, 22, 1, 9, 1, 832, 0, 0, []), none, none, some (.aload_n 0, 23, 0, 0, 0, 0, 0, 0, []), some (.invokevirtual 78, 26, 1, 18, 0, 836, 0, 0, []), none, none, some (.iconst 2, 27, 0, 0, 0, 0, 2, 0, []), some (.imul, 28, 0, 0, 0, 0, 0, 0, []), some (.ireturn, 29, 0, 0, 0, 0, 0, 0, []), some (.aload_n 0, 30, 0, 0, 0, 0, 0, 0, []), some (.invokevirtual 78, 33, 1, 18, 0, 836, 0, 0, []), none]
def am_t_X1_mildSize_2 : List (Option am_I) := [none, some (.ireturn, 34, 0, 0, 0, 0, 0, 0, [])]
def am_t_X1_mildSize : am_T := [am_t_X1_mildSize_0, am_t_X1_mildSize_1, am_t_X1_mildSize_2]
theorem am_q_X1_mildSize_0 : am_okQ (am_ok1 am_mt yX1_mildSize.cls yX1_mildSize.name cX1_mildSize 1 (some .int)) 0 am_t_X1_mildSize_0 = true := by decide +kernel
theorem am_q_X1_mildSize_1 : am_okQ (am_ok1 am_mt yX1_mildSize.cls yX1_mildSize.name cX1_mildSize 1 (some .int)) 1 am_t_X1_mildSize_1 = true := by decide +kernel
theorem am_q_X1_mildSize_2 : am_okQ (am_ok1 am_mt yX1_mildSize.cls yX1_mildSize.name cX1_mildSize 1 (some .int)) 2 am_t_X1_mildSize_2 = true := by decide +kernel
theorem am_q_X1_mildSize : am_okT (am_ok1 am_mt yX1_mildSize.cls yX1_mildSize.name cX1_mildSize 1 (some .int)) 0 am_t_X1_mildSize = true := am_okT_c am_q_X1_mildSize_0 (am_okT_c am_q_X1_mildSize_1 (am_okT_c am_q_X1_mildSize_2 (rfl)))
def am_m_X1_mildSize : am_M := (yX1_mildSize, cX1_mildSize, 1, (some .int), 1, 831, 89, 830, 24, 0, am_t_X1_mildSize)
theorem am_k_X1_mildSize : am_okM am_mt am_m_X1_mildSize := ⟨by decide +kernel, am_q_X1_mildSize⟩
def am_t_X1_sizeOfAnyMild_0 : List (Option am_I) := [some (.aload_n 0, 1, 0, 0, 0, 0, 0, 0, []), some (.bipush 13, 3, 0, 0, 0, 0, 13, 0, []), none, some (.invokevirtual 57, 6, 1, 9, 1, 832, 0, 0, []), none, none, some (.aload_n 0, 7, 0, 0, 0, 0, 0, 0, []), some (.invokevirtual 66, 10, 1, 11, 0, 840, 0, 0, []), none, none, some (.bipush 100, 12, 0, 0, 0, 0, 100, 0, []), none, some (.isub, 13, 0, 0, 0, 0, 0, 0, []), some (.ireturn, 14, 0, 0, 0, 0, 0, 0, [])]
def am_t_X1_sizeOfAnyMild : am_T := [am_t_X1_sizeOfAnyMild_0]
theorem am_q_X1_sizeOfAnyMild_0 : am_okQ (am_ok1 am_mt yX1_sizeOfAnyMild.cls yX1_sizeOfAnyMild.name cX1_sizeOfAnyMild 1 (some .int)) 0 am_t_X1_sizeOfAnyMild_0 = true := by decide +kernel
theorem am_q_X1_sizeOfAnyMild : am_okT (am_ok1 am_mt yX1_sizeOfAnyMild.cls yX1_sizeOfAnyMild.name cX1_sizeOfAnyMild 1 (some .int)) 0 am_t_X1_sizeOfAnyMild = true := am_okT_c am_q_X1_sizeOfAnyMild_0 (rfl)
def am_m_X1_sizeOfAnyMild : am_M := (yX1_sizeOfAnyMild, cX1_sizeOfAnyMild, 1, (some .int), 1, 839, 89, 838, 26, 0, am_t_X1_sizeOfAnyMild)
theorem am_k_X1_sizeOfAnyMild : am_okM am_mt am_m_X1_sizeOfAnyMild := ⟨by decide +kernel, am_q_X1_sizeOfAnyMild⟩
def am_t_X1_mildMark_0 : List (Option am_I) := [some (.aload_n 0, 1, 0, 0, 0, 0, 0, 0, []), some (.bipush 23, 3, 0, 0, 0, 0, 23, 0, []), none, some (.invokevirtual 57, 6, 1, 9, 1, 832, 0, 0, []), none, none, some (.aload_n 0, 7, 0, 0, 0, 0, 0, 0, []), some (.invokevirtual 72, 10, 1, 12, 0, 860, 0, 0, []), none, none, some (.aload_n 0, 11, 0, 0, 0, 0, 0, 0, []), some (.invokevirtual 27, 14, 1, 17, 0, 828, 0, 0, []), none, none, some (.isub, 15, 0, 0, 0, 0, 0, 0, []), some (.ireturn, 16, 0, 0, 0, 0, 0, 0, [])]
def am_t_X1_mildMark : am_T := [am_t_X1_mildMark_0]
theorem am_q_X1_mildMark_0 : am_okQ (am_ok1 am_mt yX1_mildMark.cls yX1_mildMark.name cX1_mildMark 1 (some .int)) 0 am_t_X1_mildMark_0 = true := by decide +kernel
theorem am_q_X1_mildMark : am_okT (am_ok1 am_mt yX1_mildMark.cls yX1_mildMark.name cX1_mildMark 1 (some .int)) 0 am_t_X1_mildMark = true := am_okT_c am_q_X1_mildMark_0 (rfl)
def am_m_X1_mildMark : am_M := (yX1_mildMark, cX1_mildMark, 1, (some .int), 1, 871, 89, 870, 33, 0, am_t_X1_mildMark)
theorem am_k_X1_mildMark : am_okM am_mt am_m_X1_mildMark := ⟨by decide +kernel, am_q_X1_mildMark⟩
def am_t_X2_init_0 : List (Option am_I) := [some (.aload_n 0, 1, 0, 0, 0, 0, 0, 0, []), some (.invokespecial 3, 4, 2, 0, 0, 230, 0, 0, []), none, none, some (.aload_n 0, 5, 0, 0, 0, 0, 0, 0, []), some (.iconst 4, 6, 0, 0, 0, 0, 4, 0, []), some (.newarray .int, 8, 0, 0, 4, 0, 0, 0, []), none, some (.putfield 9, 11, 2, 2, 2, 233, 0, 0, []), none, none, some (.aload_n 0, 12, 0, 0, 0, 0, 0, 0, []), some (.aload_n 1, 13, 0, 1, 0, 0, 0, 0, []), some (.putfield 15, 16, 2, 2, 0, 231, 0, 0, []), none, none]
def am_t_X2_init_1 : List (Option am_I) := [some (.aload_n 0, 17, 0, 0, 0, 0, 0, 0, []), some (.aload_n 2, 18, 0, 2, 0, 0, 0, 0, []), some (.putfield 19, 21, 2, 2, 1, 232, 0, 0, []), none, none, some (.return_, 22, 0, 0, 0, 0, 0, 0, [])]
def am_t_X2_init : am_T := [am_t_X2_init_0, am_t_X2_init_1]
theorem am_q_X2_init_0 : am_okQ (am_ok1 am_mt yX2_init.cls yX2_init.name cX2_init 3 none) 0 am_t_X2_init_0 = true := by decide +kernel
theorem am_q_X2_init_1 : am_okQ (am_ok1 am_mt yX2_init.cls yX2_init.name cX2_init 3 none) 1 am_t_X2_init_1 = true := by decide +kernel
theorem am_q_X2_init : am_okT (am_ok1 am_mt yX2_init.cls yX2_init.name cX2_init 3 none) 0 am_t_X2_init = true := am_okT_c am_q_X2_init_0 (am_okT_c am_q_X2_init_1 (rfl))
def am_m_X2_init : am_M := (yX2_init, cX2_init, 3, none, 2, 229, 86, 228, 0, 2, am_t_X2_init)
theorem am_k_X2_init : am_okM am_mt am_m_X2_init := ⟨by decide +kernel, am_q_X2_init⟩
def am_t_X2_powerOf_0 : List (Option am_I) := [some (.aload_n 0, 1, 0, 0, 0, 0, 0, 0, []), some (.getfield 15, 4, 0, 2, 0, 231, 0, 0, []), none, none, some (.invokevirtual 22, 7, 3, 45, 0, 606, 0, 0, []), none, none, some (.istore_n 3, 8, 0, 3, 0, 0, 0, 0, []), some (.iconst 1, 9, 0, 0, 0, 0, 1, 0, []), some (.iload_n 1, 10, 0, 1, 0, 0, 0, 0, []), some (.ishl, 11, 0, 0, 0, 0, 0, 0, []), some (.istore 4, 13, 0, 4, 0, 0, 0, 0, []), none, some (.iload_n 3, 14, 0, 3, 0, 0, 0, 0, []), some (.iload 4, 16, 0, 4, 0, 0, 0, 0, []), none]
def am_t_X2_powerOf_1 : List (Option am_I) := [some (.iand, 17, 0, 0, 0, 0, 0, 0, []), some (.ifCond .ne 10, 20, 27, 0, 0, 0, 0, 0, []), none, none, some (.iconst 0, 21, 0, 0, 0, 0, 0, 0, []), some (.iconst 1, 22, 0, 0, 0, 0, 1, 0, []), some (.iload_n 2, 23, 0, 2, 0, 0, 0, 0, []), some (.invokestatic 28, 26, 1, 134, 3, 607, 0, 0, []), none, none, some (.ireturn, 27, 0, 0, 0, 0, 0, 0, []), some (.aload_n 0, 28, 0, 0, 0, 0, 0, 0, []), some (.getfield 15, 31, 0, 2, 0, 231, 0, 0, []), none, none, some (.invokevirtual 32, 34, 3, 48, 0, 613, 0, 0, [])]
def am_t_X2_powerOf_2 : List (Option am_I) := [none, none, some (.istore 5, 36, 0, 5, 0, 0, 0, 0, []), none, some (.aload_n 0, 37, 0, 0, 0, 0, 0, 0, []), some (.getfield 15, 40, 0, 2, 0, 231, 0, 0, []), none, none, some (.iload_n 1, 41, 0, 1, 0, 0, 0, 0, []), some (.iload_n 3, 42, 0, 3, 0, 0, 0, 0, []), some (.invokevirtual 35, 45, 3, 46, 2, 614, 0, 0, []), none, none, some (.istore 6, 47, 0, 6, 0, 0, 0, 0, []), none, some (.iload_n 3, 48, 0, 3, 0, 0, 0, 0, [])]
def am_t_X2_powerOf_3 : List (Option am_I) := [some (.invokestatic 39, 51, 0, 227, 1, 615, 0, 0, []), none, none, some (.istore 7, 53, 0, 7, 0, 0, 0, 0, []), none, some (.iconst 0, 54, 0, 0, 0, 0, 0, 0, []), some (.istore 8, 56, 0, 8, 0, 0, 0, 0, []), none, some (.iconst 0, 57, 0, 0, 0, 0, 0, 0, []), some (.istore 9, 59, 0, 9, 0, 0, 0, 0, []), none, some (.iload 9, 61, 0, 9, 0, 0, 0, 0, []), none, some (.bipush 16, 63, 0, 0, 0, 0, 16, 0, []), none, some (.if_icmp .ge 86, 66, 149, 0, 0, 0, 0, 0, [])]
def am_t_X2_powerOf_4 : List (Option am_I) := [none, none, some (.iload 9, 68, 0, 9, 0, 0, 0, 0, []), none, some (.iload_n 3, 69, 0, 3, 0, 0, 0, 0, []), some (.iload 4, 71, 0, 4, 0, 0, 0, 0, []), none, some (.iconst (-1), 72, 0, 0, 0, 0, (-1), 0, []), some (.ixor, 73, 0, 0, 0, 0, 0, 0, []), some (.iand, 74, 0, 0, 0, 0, 0, 0, []), some (.iconst (-1), 75, 0, 0, 0, 0, (-1), 0, []), some (.ixor, 76, 0, 0, 0, 0, 0, 0, []), some (.iand, 77, 0, 0, 0, 0, 0, 0, []), some (.ifCond .eq 6, 80, 83, 0, 0, 0, 0, 0, []), none, none]
def am_t_X2_powerOf_5 : List (Option am_I) := [some (.goto 63, 83, 143, 0, 0, 0, 0, 0, []), none, none, some (.aload_n 0, 84, 0, 0, 0, 0, 0, 0, []), some (.getfield 15, 87, 0, 2, 0, 231, 0, 0, []), none, none, some (.iload 9, 89, 0, 9, 0, 0, 0, 0, []), none, some (.iload_n 3, 90, 0, 3, 0, 0, 0, 0, []), some (.invokevirtual 45, 93, 3, 47, 2, 616, 0, 0, []), none, none, some (.istore 10, 95, 0, 10, 0, 0, 0, 0, []), none, some (.iload 10, 97, 0, 10, 0, 0, 0, 0, [])]
def am_t_X2_powerOf_6 : List (Option am_I) := [none, some (.iload 5, 99, 0, 5, 0, 0, 0, 0, []), none, some (.if_icmp .ge 44, 102, 143, 0, 0, 0, 0, 0, []), none, none, some (.iload 10, 104, 0, 10, 0, 0, 0, 0, []), none, some (.iload 6, 106, 0, 6, 0, 0, 0, 0, []), none, some (.iadd, 107, 0, 0, 0, 0, 0, 0, []), some (.iload 5, 109, 0, 5, 0, 0, 0, 0, []), none, some (.if_icmp .lt 34, 112, 143, 0, 0, 0, 0, 0, []), none, none]
def am_t_X2_powerOf_7 : List (Option am_I) := [some (.iload 7, 114, 0, 7, 0, 0, 0, 0, []), none, some (.iconst 1, 115, 0, 0, 0, 0, 1, 0, []), some (.isub, 116, 0, 0, 0, 0, 0, 0, []), some (.iload 9, 118, 0, 9, 0, 0, 0, 0, []), none, some (.invokestatic 39, 121, 0, 227, 1, 615, 0, 0, []), none, none, some (.isub, 122, 0, 0, 0, 0, 0, 0, []), some (.istore 11, 124, 0, 11, 0, 0, 0, 0, []), none, some (.iload 8, 126, 0, 8, 0, 0, 0, 0, []), none, some (.iload 9, 128, 0, 9, 0, 0, 0, 0, []), none]
def am_t_X2_powerOf_8 : List (Option am_I) := [some (.invokestatic 39, 131, 0, 227, 1, 615, 0, 0, []), none, none, some (.invokestatic 48, 134, 0, 22, 1, 617, 0, 0, []), none, none, some (.iload 11, 136, 0, 11, 0, 0, 0, 0, []), none, some (.invokestatic 48, 139, 0, 22, 1, 617, 0, 0, []), none, none, some (.imul, 140, 0, 0, 0, 0, 0, 0, []), some (.iadd, 141, 0, 0, 0, 0, 0, 0, []), some (.istore 8, 143, 0, 8, 0, 0, 0, 0, []), none, some (.iinc 9 1, 146, 0, 9, 0, 0, 1, 0, [])]
def am_t_X2_powerOf_9 : List (Option am_I) := [none, none, some (.goto (-87), 149, 59, 0, 0, 0, 0, 0, []), none, none, some (.iload 8, 151, 0, 8, 0, 0, 0, 0, []), none, some (.iload 7, 153, 0, 7, 0, 0, 0, 0, []), none, some (.invokestatic 48, 156, 0, 22, 1, 617, 0, 0, []), none, none, some (.iload_n 2, 157, 0, 2, 0, 0, 0, 0, []), some (.invokestatic 28, 160, 1, 134, 3, 607, 0, 0, []), none, none]
def am_t_X2_powerOf_10 : List (Option am_I) := [some (.ireturn, 161, 0, 0, 0, 0, 0, 0, [])]
def am_t_X2_powerOf : am_T := [am_t_X2_powerOf_0, am_t_X2_powerOf_1, am_t_X2_powerOf_2, am_t_X2_powerOf_3, am_t_X2_powerOf_4, am_t_X2_powerOf_5, am_t_X2_powerOf_6, am_t_X2_powerOf_7, am_t_X2_powerOf_8, am_t_X2_powerOf_9, am_t_X2_powerOf_10]
theorem am_q_X2_powerOf_0 : am_okQ (am_ok1 am_mt yX2_powerOf.cls yX2_powerOf.name cX2_powerOf 12 (some .int)) 0 am_t_X2_powerOf_0 = true := by decide +kernel
theorem am_q_X2_powerOf_1 : am_okQ (am_ok1 am_mt yX2_powerOf.cls yX2_powerOf.name cX2_powerOf 12 (some .int)) 1 am_t_X2_powerOf_1 = true := by decide +kernel
theorem am_q_X2_powerOf_2 : am_okQ (am_ok1 am_mt yX2_powerOf.cls yX2_powerOf.name cX2_powerOf 12 (some .int)) 2 am_t_X2_powerOf_2 = true := by decide +kernel
theorem am_q_X2_powerOf_3 : am_okQ (am_ok1 am_mt yX2_powerOf.cls yX2_powerOf.name cX2_powerOf 12 (some .int)) 3 am_t_X2_powerOf_3 = true := by decide +kernel
theorem am_q_X2_powerOf_4 : am_okQ (am_ok1 am_mt yX2_powerOf.cls yX2_powerOf.name cX2_powerOf 12 (some .int)) 4 am_t_X2_powerOf_4 = true := by decide +kernel
theorem am_q_X2_powerOf_5 : am_okQ (am_ok1 am_mt yX2_powerOf.cls yX2_powerOf.name cX2_powerOf 12 (some .int)) 5 am_t_X2_powerOf_5 = true := by decide +kernel
theorem am_q_X2_powerOf_6 : am_okQ (am_ok1 am_mt yX2_powerOf.cls yX2_powerOf.name cX2_powerOf 12 (some .int)) 6 am_t_X2_powerOf_6 = true := by decide +kernel
theorem am_q_X2_powerOf_7 : am_okQ (am_ok1 am_mt yX2_powerOf.cls yX2_powerOf.name cX2_powerOf 12 (some .int)) 7 am_t_X2_powerOf_7 = true := by decide +kernel
theorem am_q_X2_powerOf_8 : am_okQ (am_ok1 am_mt yX2_powerOf.cls yX2_powerOf.name cX2_powerOf 12 (some .int)) 8 am_t_X2_powerOf_8 = true := by decide +kernel
theorem am_q_X2_powerOf_9 : am_okQ (am_ok1 am_mt yX2_powerOf.cls yX2_powerOf.name cX2_powerOf 12 (some .int)) 9 am_t_X2_powerOf_9 = true := by decide +kernel
theorem am_q_X2_powerOf_10 : am_okQ (am_ok1 am_mt yX2_powerOf.cls yX2_powerOf.name cX2_powerOf 12 (some .int)) 10 am_t_X2_powerOf_10 = true := by decide +kernel
theorem am_q_X2_powerOf : am_okT (am_ok1 am_mt yX2_powerOf.cls yX2_powerOf.name cX2_powerOf 12 (some .int)) 0 am_t_X2_powerOf = true := am_okT_c am_q_X2_powerOf_0 (am_okT_c am_q_X2_powerOf_1 (am_okT_c am_q_X2_powerOf_2 (am_okT_c am_q_X2_powerOf_3 (am_okT_c am_q_X2_powerOf_4 (am_okT_c am_q_X2_powerOf_5 (am_okT_c am_q_X2_powerOf_6 (am_okT_c am_q_X2_powerOf_7 (am_okT_c am_q_X2_powerOf_8 (am_okT_c am_q_X2_powerOf_9 (am_okT_c am_q_X2_powerOf_10 (rfl)))))))))))
def am_m_X2_powerOf : am_M := (yX2_powerOf, cX2_powerOf, 12, (some .int), 1, 605, 86, 603, 604, 2, am_t_X2_powerOf)
theorem am_k_X2_powerOf : am_okM am_mt am_m_X2_powerOf := ⟨by decide +kernel, am_q_X2_powerOf⟩
def am_t_X2_ordersOf_0 : List (Option am_I) := [some (.iconst 1, 1, 0, 0, 0, 0, 1, 0, []), some (.istore_n 1, 2, 0, 1, 0, 0, 0, 0, []), some (.iconst 2, 3, 0, 0, 0, 0, 2, 0, []), some (.istore_n 2, 4, 0, 2, 0, 0, 0, 0, []), some (.iload_n 2, 5, 0, 2, 0, 0, 0, 0, []), some (.iload_n 0, 6, 0, 0, 0, 0, 0, 0, []), some (.if_icmp .gt 18, 9, 24, 0, 0, 0, 0, 0, []), none, none, some (.iload_n 2, 10, 0, 2, 0, 0, 0, 0, []), some (.iconst 4, 11, 0, 0, 0, 0, 4, 0, []), some (.if_icmp .gt 13, 14, 24, 0, 0, 0, 0, 0, []), none, none, some (.iload_n 1, 15, 0, 1, 0, 0, 0, 0, []), some (.iload_n 2, 16, 0, 2, 0, 0, 0, 0, [])]
def am_t_X2_ordersOf_1 : List (Option am_I) := [some (.imul, 17, 0, 0, 0, 0, 0, 0, []), some (.istore_n 1, 18, 0, 1, 0, 0, 0, 0, []), some (.iinc 2 1, 21, 0, 2, 0, 0, 1, 0, []), none, none, some (.goto (-17), 24, 4, 0, 0, 0, 0, 0, []), none, none, some (.iload_n 1, 25, 0, 1, 0, 0, 0, 0, []), some (.ireturn, 26, 0, 0, 0, 0, 0, 0, [])]
def am_t_X2_ordersOf : am_T := [am_t_X2_ordersOf_0, am_t_X2_ordersOf_1]
theorem am_q_X2_ordersOf_0 : am_okQ (am_ok1 am_mt yX2_ordersOf.cls yX2_ordersOf.name cX2_ordersOf 3 (some .int)) 0 am_t_X2_ordersOf_0 = true := by decide +kernel
theorem am_q_X2_ordersOf_1 : am_okQ (am_ok1 am_mt yX2_ordersOf.cls yX2_ordersOf.name cX2_ordersOf 3 (some .int)) 1 am_t_X2_ordersOf_1 = true := by decide +kernel
theorem am_q_X2_ordersOf : am_okT (am_ok1 am_mt yX2_ordersOf.cls yX2_ordersOf.name cX2_ordersOf 3 (some .int)) 0 am_t_X2_ordersOf = true := am_okT_c am_q_X2_ordersOf_0 (am_okT_c am_q_X2_ordersOf_1 (rfl))
def am_m_X2_ordersOf : am_M := (yX2_ordersOf, cX2_ordersOf, 3, (some .int), 0, 619, 86, 618, 0, 1, am_t_X2_ordersOf)
theorem am_k_X2_ordersOf : am_okM am_mt am_m_X2_ordersOf := ⟨by decide +kernel, am_q_X2_ordersOf⟩
def am_t_X2_fewestSpeakers_0 : List (Option am_I) := [some (.aload_n 0, 1, 0, 0, 0, 0, 0, 0, []), some (.getfield 15, 4, 0, 2, 0, 231, 0, 0, []), none, none, some (.invokevirtual 22, 7, 3, 45, 0, 606, 0, 0, []), none, none, some (.istore_n 2, 8, 0, 2, 0, 0, 0, 0, []), some (.ldc 51, 10, 0, 0, 0, 628, (-1000000), 0, []), none, some (.istore_n 3, 11, 0, 3, 0, 0, 0, 0, []), some (.iconst 0, 12, 0, 0, 0, 0, 0, 0, []), some (.istore 4, 14, 0, 4, 0, 0, 0, 0, []), none, some (.iload 4, 16, 0, 4, 0, 0, 0, 0, []), none]
def am_t_X2_fewestSpeakers_1 : List (Option am_I) := [some (.bipush 16, 18, 0, 0, 0, 0, 16, 0, []), none, some (.if_icmp .ge 52, 21, 70, 0, 0, 0, 0, 0, []), none, none, some (.iload 4, 23, 0, 4, 0, 0, 0, 0, []), none, some (.iload_n 2, 24, 0, 2, 0, 0, 0, 0, []), some (.iconst (-1), 25, 0, 0, 0, 0, (-1), 0, []), some (.ixor, 26, 0, 0, 0, 0, 0, 0, []), some (.iand, 27, 0, 0, 0, 0, 0, 0, []), some (.ifCond .ne 37, 30, 64, 0, 0, 0, 0, 0, []), none, none, some (.aload_n 0, 31, 0, 0, 0, 0, 0, 0, []), some (.getfield 15, 34, 0, 2, 0, 231, 0, 0, [])]
def am_t_X2_fewestSpeakers_2 : List (Option am_I) := [none, none, some (.iload 4, 36, 0, 4, 0, 0, 0, 0, []), none, some (.iload_n 2, 37, 0, 2, 0, 0, 0, 0, []), some (.invokevirtual 52, 40, 3, 49, 2, 629, 0, 0, []), none, none, some (.ifCond .eq 24, 43, 64, 0, 0, 0, 0, 0, []), none, none, some (.iload_n 3, 44, 0, 3, 0, 0, 0, 0, []), some (.ldc 51, 46, 0, 0, 0, 628, (-1000000), 0, []), none, some (.if_icmp .eq 15, 49, 61, 0, 0, 0, 0, 0, []), none]
def am_t_X2_fewestSpeakers_3 : List (Option am_I) := [none, some (.iload 4, 51, 0, 4, 0, 0, 0, 0, []), none, some (.invokestatic 39, 54, 0, 227, 1, 615, 0, 0, []), none, none, some (.iload_n 3, 55, 0, 3, 0, 0, 0, 0, []), some (.invokestatic 39, 58, 0, 227, 1, 615, 0, 0, []), none, none, some (.if_icmp .ge 6, 61, 64, 0, 0, 0, 0, 0, []), none, none, some (.iload 4, 63, 0, 4, 0, 0, 0, 0, []), none, some (.istore_n 3, 64, 0, 3, 0, 0, 0, 0, [])]
def am_t_X2_fewestSpeakers_4 : List (Option am_I) := [some (.iinc 4 1, 67, 0, 4, 0, 0, 1, 0, []), none, none, some (.goto (-53), 70, 14, 0, 0, 0, 0, 0, []), none, none, some (.iload_n 3, 71, 0, 3, 0, 0, 0, 0, []), some (.ldc 51, 73, 0, 0, 0, 628, (-1000000), 0, []), none, some (.if_icmp .eq 8, 76, 81, 0, 0, 0, 0, 0, []), none, none, some (.iload_n 1, 77, 0, 1, 0, 0, 0, 0, []), some (.iconst 1, 78, 0, 0, 0, 0, 1, 0, []), some (.if_icmp .ne 7, 81, 85, 0, 0, 0, 0, 0, []), none]
def am_t_X2_fewestSpeakers_5 : List (Option am_I) := [none, some (.iload_n 3, 82, 0, 3, 0, 0, 0, 0, []), some (.goto 7, 85, 89, 0, 0, 0, 0, 0, []), none, none, some (.iload_n 3, 86, 0, 3, 0, 0, 0, 0, []), some (.invokestatic 39, 89, 0, 227, 1, 615, 0, 0, []), none, none, some (.ireturn, 90, 0, 0, 0, 0, 0, 0, [])]
def am_t_X2_fewestSpeakers : am_T := [am_t_X2_fewestSpeakers_0, am_t_X2_fewestSpeakers_1, am_t_X2_fewestSpeakers_2, am_t_X2_fewestSpeakers_3, am_t_X2_fewestSpeakers_4, am_t_X2_fewestSpeakers_5]
theorem am_q_X2_fewestSpeakers_0 : am_okQ (am_ok1 am_mt yX2_fewestSpeakers.cls yX2_fewestSpeakers.name cX2_fewestSpeakers 5 (some .int)) 0 am_t_X2_fewestSpeakers_0 = true := by decide +kernel
theorem am_q_X2_fewestSpeakers_1 : am_okQ (am_ok1 am_mt yX2_fewestSpeakers.cls yX2_fewestSpeakers.name cX2_fewestSpeakers 5 (some .int)) 1 am_t_X2_fewestSpeakers_1 = true := by decide +kernel
theorem am_q_X2_fewestSpeakers_2 : am_okQ (am_ok1 am_mt yX2_fewestSpeakers.cls yX2_fewestSpeakers.name cX2_fewestSpeakers 5 (some .int)) 2 am_t_X2_fewestSpeakers_2 = true := by decide +kernel
theorem am_q_X2_fewestSpeakers_3 : am_okQ (am_ok1 am_mt yX2_fewestSpeakers.cls yX2_fewestSpeakers.name cX2_fewestSpeakers 5 (some .int)) 3 am_t_X2_fewestSpeakers_3 = true := by decide +kernel
theorem am_q_X2_fewestSpeakers_4 : am_okQ (am_ok1 am_mt yX2_fewestSpeakers.cls yX2_fewestSpeakers.name cX2_fewestSpeakers 5 (some .int)) 4 am_t_X2_fewestSpeakers_4 = true := by decide +kernel
theorem am_q_X2_fewestSpeakers_5 : am_okQ (am_ok1 am_mt yX2_fewestSpeakers.cls yX2_fewestSpeakers.name cX2_fewestSpeakers 5 (some .int)) 5 am_t_X2_fewestSpeakers_5 = true := by decide +kernel
theorem am_q_X2_fewestSpeakers : am_okT (am_ok1 am_mt yX2_fewestSpeakers.cls yX2_fewestSpeakers.name cX2_fewestSpeakers 5 (some .int)) 0 am_t_X2_fewestSpeakers = true := am_okT_c am_q_X2_fewestSpeakers_0 (am_okT_c am_q_X2_fewestSpeakers_1 (am_okT_c am_q_X2_fewestSpeakers_2 (am_okT_c am_q_X2_fewestSpeakers_3 (am_okT_c am_q_X2_fewestSpeakers_4 (am_okT_c am_q_X2_fewestSpeakers_5 (rfl))))))
def am_m_X2_fewestSpeakers : am_M := (yX2_fewestSpeakers, cX2_fewestSpeakers, 5, (some .int), 1, 627, 86, 625, 626, 1, am_t_X2_fewestSpeakers)
theorem am_k_X2_fewestSpeakers : am_okM am_mt am_m_X2_fewestSpeakers := ⟨by decide +kernel, am_q_X2_fewestSpeakers⟩
def am_t_X2_bestAgenda_0 : List (Option am_I) := [some (.aload_n 0, 1, 0, 0, 0, 0, 0, 0, []), some (.getfield 15, 4, 0, 2, 0, 231, 0, 0, []), none, none, some (.getfield 56, 7, 0, 3, 2, 133, 0, 0, []), none, none, some (.istore_n 2, 8, 0, 2, 0, 0, 0, 0, []), some (.iload_n 1, 9, 0, 1, 0, 0, 0, 0, []), some (.iload_n 2, 10, 0, 2, 0, 0, 0, 0, []), some (.if_icmp .lt 6, 13, 16, 0, 0, 0, 0, 0, []), none, none, some (.ldc 51, 15, 0, 0, 0, 628, (-1000000), 0, []), none, some (.ireturn, 16, 0, 0, 0, 0, 0, 0, [])]
def am_t_X2_bestAgenda_1 : List (Option am_I) := [some (.aload_n 0, 17, 0, 0, 0, 0, 0, 0, []), some (.getfield 19, 20, 0, 2, 1, 232, 0, 0, []), none, none, some (.aload_n 0, 21, 0, 0, 0, 0, 0, 0, []), some (.getfield 15, 24, 0, 2, 0, 231, 0, 0, []), none, none, some (.invokevirtual 60, 27, 3, 38, 1, 675, 0, 0, []), none, none, some (.iconst 0, 28, 0, 0, 0, 0, 0, 0, []), some (.istore_n 3, 29, 0, 3, 0, 0, 0, 0, []), some (.iload_n 3, 30, 0, 3, 0, 0, 0, 0, []), some (.iload_n 2, 31, 0, 2, 0, 0, 0, 0, []), some (.if_icmp .ge 47, 34, 78, 0, 0, 0, 0, 0, [])]
def am_t_X2_bestAgenda_2 : List (Option am_I) := [none, none, some (.aload_n 0, 35, 0, 0, 0, 0, 0, 0, []), some (.getfield 19, 38, 0, 2, 1, 232, 0, 0, []), none, none, some (.invokevirtual 22, 41, 3, 45, 0, 606, 0, 0, []), none, none, some (.istore 4, 43, 0, 4, 0, 0, 0, 0, []), none, some (.aload_n 0, 44, 0, 0, 0, 0, 0, 0, []), some (.getfield 9, 47, 0, 2, 2, 233, 0, 0, []), none, none, some (.iload_n 3, 48, 0, 3, 0, 0, 0, 0, [])]
def am_t_X2_bestAgenda_3 : List (Option am_I) := [some (.aload_n 0, 49, 0, 0, 0, 0, 0, 0, []), some (.getfield 19, 52, 0, 2, 1, 232, 0, 0, []), none, none, some (.iload 4, 54, 0, 4, 0, 0, 0, 0, []), none, some (.iload 4, 56, 0, 4, 0, 0, 0, 0, []), none, some (.invokevirtual 45, 59, 3, 47, 2, 616, 0, 0, []), none, none, some (.iastore, 60, 0, 0, 0, 0, 0, 0, []), some (.aload_n 0, 61, 0, 0, 0, 0, 0, 0, []), some (.getfield 19, 64, 0, 2, 1, 232, 0, 0, []), none, none]
def am_t_X2_bestAgenda_4 : List (Option am_I) := [some (.iload 4, 66, 0, 4, 0, 0, 0, 0, []), none, some (.iload 4, 68, 0, 4, 0, 0, 0, 0, []), none, some (.invokevirtual 64, 71, 3, 51, 2, 676, 0, 0, []), none, none, some (.pop, 72, 0, 0, 0, 0, 0, 0, []), some (.iinc 3 1, 75, 0, 3, 0, 0, 1, 0, []), none, none, some (.goto (-46), 78, 29, 0, 0, 0, 0, 0, []), none, none, some (.iconst 0, 79, 0, 0, 0, 0, 0, 0, []), some (.istore_n 3, 80, 0, 3, 0, 0, 0, 0, [])]
def am_t_X2_bestAgenda_5 : List (Option am_I) := [some (.iconst (-1), 81, 0, 0, 0, 0, (-1), 0, []), some (.istore 4, 83, 0, 4, 0, 0, 0, 0, []), none, some (.iconst 0, 84, 0, 0, 0, 0, 0, 0, []), some (.istore 5, 86, 0, 5, 0, 0, 0, 0, []), none, some (.iload 5, 88, 0, 5, 0, 0, 0, 0, []), none, some (.iconst 1, 89, 0, 0, 0, 0, 1, 0, []), some (.iconst 2, 90, 0, 0, 0, 0, 2, 0, []), some (.iload_n 2, 91, 0, 2, 0, 0, 0, 0, []), some (.imul, 92, 0, 0, 0, 0, 0, 0, []), some (.ishl, 93, 0, 0, 0, 0, 0, 0, []), some (.if_icmp .ge 45, 96, 138, 0, 0, 0, 0, 0, []), none, none]
def am_t_X2_bestAgenda_6 : List (Option am_I) := [some (.iload 5, 98, 0, 5, 0, 0, 0, 0, []), none, some (.iload_n 2, 99, 0, 2, 0, 0, 0, 0, []), some (.invokestatic 67, 102, 0, 26, 2, 677, 0, 0, []), none, none, some (.ifCond .eq 13, 105, 115, 0, 0, 0, 0, 0, []), none, none, some (.aload_n 0, 106, 0, 0, 0, 0, 0, 0, []), some (.iload 5, 108, 0, 5, 0, 0, 0, 0, []), none, some (.iload_n 2, 109, 0, 2, 0, 0, 0, 0, []), some (.invokevirtual 70, 112, 2, 27, 2, 683, 0, 0, []), none, none]
def am_t_X2_bestAgenda_7 : List (Option am_I) := [some (.goto 4, 115, 116, 0, 0, 0, 0, 0, []), none, none, some (.iconst (-1), 116, 0, 0, 0, 0, (-1), 0, []), some (.istore 6, 118, 0, 6, 0, 0, 0, 0, []), none, some (.iload 6, 120, 0, 6, 0, 0, 0, 0, []), none, some (.iload 4, 122, 0, 4, 0, 0, 0, 0, []), none, some (.if_icmp .le 10, 125, 132, 0, 0, 0, 0, 0, []), none, none, some (.iload 6, 127, 0, 6, 0, 0, 0, 0, []), none, some (.istore 4, 129, 0, 4, 0, 0, 0, 0, [])]
def am_t_X2_bestAgenda_8 : List (Option am_I) := [none, some (.iload 5, 131, 0, 5, 0, 0, 0, 0, []), none, some (.istore_n 3, 132, 0, 3, 0, 0, 0, 0, []), some (.iinc 5 1, 135, 0, 5, 0, 0, 1, 0, []), none, none, some (.goto (-49), 138, 86, 0, 0, 0, 0, 0, []), none, none, some (.iload_n 1, 139, 0, 1, 0, 0, 0, 0, []), some (.ifCond .ge 8, 142, 147, 0, 0, 0, 0, 0, []), none, none, some (.iload 4, 144, 0, 4, 0, 0, 0, 0, []), none]
def am_t_X2_bestAgenda_9 : List (Option am_I) := [some (.goto 9, 147, 153, 0, 0, 0, 0, 0, []), none, none, some (.iload_n 3, 148, 0, 3, 0, 0, 0, 0, []), some (.iload_n 1, 149, 0, 1, 0, 0, 0, 0, []), some (.iload_n 2, 150, 0, 2, 0, 0, 0, 0, []), some (.invokestatic 73, 153, 0, 25, 3, 680, 0, 0, []), none, none, some (.ireturn, 154, 0, 0, 0, 0, 0, 0, [])]
def am_t_X2_bestAgenda : am_T := [am_t_X2_bestAgenda_0, am_t_X2_bestAgenda_1, am_t_X2_bestAgenda_2, am_t_X2_bestAgenda_3, am_t_X2_bestAgenda_4, am_t_X2_bestAgenda_5, am_t_X2_bestAgenda_6, am_t_X2_bestAgenda_7, am_t_X2_bestAgenda_8, am_t_X2_bestAgenda_9]
theorem am_q_X2_bestAgenda_0 : am_okQ (am_ok1 am_mt yX2_bestAgenda.cls yX2_bestAgenda.name cX2_bestAgenda 7 (some .int)) 0 am_t_X2_bestAgenda_0 = true := by decide +kernel
theorem am_q_X2_bestAgenda_1 : am_okQ (am_ok1 am_mt yX2_bestAgenda.cls yX2_bestAgenda.name cX2_bestAgenda 7 (some .int)) 1 am_t_X2_bestAgenda_1 = true := by decide +kernel
theorem am_q_X2_bestAgenda_2 : am_okQ (am_ok1 am_mt yX2_bestAgenda.cls yX2_bestAgenda.name cX2_bestAgenda 7 (some .int)) 2 am_t_X2_bestAgenda_2 = true := by decide +kernel
theorem am_q_X2_bestAgenda_3 : am_okQ (am_ok1 am_mt yX2_bestAgenda.cls yX2_bestAgenda.name cX2_bestAgenda 7 (some .int)) 3 am_t_X2_bestAgenda_3 = true := by decide +kernel
theorem am_q_X2_bestAgenda_4 : am_okQ (am_ok1 am_mt yX2_bestAgenda.cls yX2_bestAgenda.name cX2_bestAgenda 7 (some .int)) 4 am_t_X2_bestAgenda_4 = true := by decide +kernel
theorem am_q_X2_bestAgenda_5 : am_okQ (am_ok1 am_mt yX2_bestAgenda.cls yX2_bestAgenda.name cX2_bestAgenda 7 (some .int)) 5 am_t_X2_bestAgenda_5 = true := by decide +kernel
theorem am_q_X2_bestAgenda_6 : am_okQ (am_ok1 am_mt yX2_bestAgenda.cls yX2_bestAgenda.name cX2_bestAgenda 7 (some .int)) 6 am_t_X2_bestAgenda_6 = true := by decide +kernel
theorem am_q_X2_bestAgenda_7 : am_okQ (am_ok1 am_mt yX2_bestAgenda.cls yX2_bestAgenda.name cX2_bestAgenda 7 (some .int)) 7 am_t_X2_bestAgenda_7 = true := by decide +kernel
theorem am_q_X2_bestAgenda_8 : am_okQ (am_ok1 am_mt yX2_bestAgenda.cls yX2_bestAgenda.name cX2_bestAgenda 7 (some .int)) 8 am_t_X2_bestAgenda_8 = true := by decide +kernel
theorem am_q_X2_bestAgenda_9 : am_okQ (am_ok1 am_mt yX2_bestAgenda.cls yX2_bestAgenda.name cX2_bestAgenda 7 (some .int)) 9 am_t_X2_bestAgenda_9 = true := by decide +kernel
theorem am_q_X2_bestAgenda : am_okT (am_ok1 am_mt yX2_bestAgenda.cls yX2_bestAgenda.name cX2_bestAgenda 7 (some .int)) 0 am_t_X2_bestAgenda = true := am_okT_c am_q_X2_bestAgenda_0 (am_okT_c am_q_X2_bestAgenda_1 (am_okT_c am_q_X2_bestAgenda_2 (am_okT_c am_q_X2_bestAgenda_3 (am_okT_c am_q_X2_bestAgenda_4 (am_okT_c am_q_X2_bestAgenda_5 (am_okT_c am_q_X2_bestAgenda_6 (am_okT_c am_q_X2_bestAgenda_7 (am_okT_c am_q_X2_bestAgenda_8 (am_okT_c am_q_X2_bestAgenda_9 (rfl))))))))))
def am_m_X2_bestAgenda : am_M := (yX2_bestAgenda, cX2_bestAgenda, 7, (some .int), 1, 674, 86, 672, 673, 1, am_t_X2_bestAgenda)
theorem am_k_X2_bestAgenda : am_okM am_mt am_m_X2_bestAgenda := ⟨by decide +kernel, am_q_X2_bestAgenda⟩
def am_ms0 : List am_M := [am_m_X0_init, am_m_X0_forget, am_m_X0_keep, am_m_X0_giveBack, am_m_X1_init, am_m_X1_sizeOf, am_m_X1_markOf, am_m_X1_traceAt, am_m_X1_begin, am_m_X1_leave, am_m_X1_isMild, am_m_X1_lentSize, am_m_X1_lentMark, am_m_X1_plainSize, am_m_X1_sizeOfAnyPlain, am_m_X1_plainMark, am_m_X1_markOfAnyPlain, am_m_X1_mildSize, am_m_X1_sizeOfAnyMild, am_m_X1_mildMark, am_m_X2_init, am_m_X2_powerOf, am_m_X2_ordersOf, am_m_X2_fewestSpeakers, am_m_X2_bestAgenda]
theorem am_ms0_ok : ∀ M ∈ am_ms0, am_okM am_mt M := List.forall_mem_cons.mpr ⟨am_k_X0_init, List.forall_mem_cons.mpr ⟨am_k_X0_forget, List.forall_mem_cons.mpr ⟨am_k_X0_keep, List.forall_mem_cons.mpr ⟨am_k_X0_giveBack, List.forall_mem_cons.mpr ⟨am_k_X1_init, List.forall_mem_cons.mpr ⟨am_k_X1_sizeOf, List.forall_mem_cons.mpr ⟨am_k_X1_markOf, List.forall_mem_cons.mpr ⟨am_k_X1_traceAt, List.forall_mem_cons.mpr ⟨am_k_X1_begin, List.forall_mem_cons.mpr ⟨am_k_X1_leave, List.forall_mem_cons.mpr ⟨am_k_X1_isMild, List.forall_mem_cons.mpr ⟨am_k_X1_lentSize, List.forall_mem_cons.mpr ⟨am_k_X1_lentMark, List.forall_mem_cons.mpr ⟨am_k_X1_plainSize, List.forall_mem_cons.mpr ⟨am_k_X1_sizeOfAnyPlain, List.forall_mem_cons.mpr ⟨am_k_X1_plainMark, List.forall_mem_cons.mpr ⟨am_k_X1_markOfAnyPlain, List.forall_mem_cons.mpr ⟨am_k_X1_mildSize, List.forall_mem_cons.mpr ⟨am_k_X1_sizeOfAnyMild, List.forall_mem_cons.mpr ⟨am_k_X1_mildMark, List.forall_mem_cons.mpr ⟨am_k_X2_init, List.forall_mem_cons.mpr ⟨am_k_X2_powerOf, List.forall_mem_cons.mpr ⟨am_k_X2_ordersOf, List.forall_mem_cons.mpr ⟨am_k_X2_fewestSpeakers, List.forall_mem_cons.mpr ⟨am_k_X2_bestAgenda, fun _ h => absurd h List.not_mem_nil⟩⟩⟩⟩⟩⟩⟩⟩⟩⟩⟩⟩⟩⟩⟩⟩⟩⟩⟩⟩⟩⟩⟩⟩⟩
end
section
def am_t_X2_digit_0 : List (Option am_I) := [some (.iload_n 0, 1, 0, 0, 0, 0, 0, 0, []), some (.iconst 2, 2, 0, 0, 0, 0, 2, 0, []), some (.iload_n 2, 3, 0, 2, 0, 0, 0, 0, []), some (.iconst 1, 4, 0, 0, 0, 0, 1, 0, []), some (.isub, 5, 0, 0, 0, 0, 0, 0, []), some (.iload_n 1, 6, 0, 1, 0, 0, 0, 0, []), some (.isub, 7, 0, 0, 0, 0, 0, 0, []), some (.imul, 8, 0, 0, 0, 0, 0, 0, []), some (.ishr, 9, 0, 0, 0, 0, 0, 0, []), some (.iconst 3, 10, 0, 0, 0, 0, 3, 0, []), some (.iand, 11, 0, 0, 0, 0, 0, 0, []), some (.ireturn, 12, 0, 0, 0, 0, 0, 0, [])]
def am_t_X2_digit : am_T := [am_t_X2_digit_0]
theorem am_q_X2_digit_0 : am_okQ (am_ok1 am_mt yX2_digit.cls yX2_digit.name cX2_digit 3 (some .int)) 0 am_t_X2_digit_0 = true := by decide +kernel
theorem am_q_X2_digit : am_okT (am_ok1 am_mt yX2_digit.cls yX2_digit.name cX2_digit 3 (some .int)) 0 am_t_X2_digit = true := am_okT_c am_q_X2_digit_0 (rfl)
def am_m_X2_digit : am_M := (yX2_digit, cX2_digit, 3, (some .int), 0, 682, 86, 681, 0, 3, am_t_X2_digit)
theorem am_k_X2_digit : am_okM am_mt am_m_X2_digit := ⟨by decide +kernel, am_q_X2_digit⟩
def am_t_X2_isOrder_0 : List (Option am_I) := [some (.iconst 0, 1, 0, 0, 0, 0, 0, 0, []), some (.istore_n 2, 2, 0, 2, 0, 0, 0, 0, []), some (.iconst 0, 3, 0, 0, 0, 0, 0, 0, []), some (.istore_n 3, 4, 0, 3, 0, 0, 0, 0, []), some (.iload_n 3, 5, 0, 3, 0, 0, 0, 0, []), some (.iload_n 1, 6, 0, 1, 0, 0, 0, 0, []), some (.if_icmp .ge 20, 9, 26, 0, 0, 0, 0, 0, []), none, none, some (.iload_n 2, 10, 0, 2, 0, 0, 0, 0, []), some (.iconst 1, 11, 0, 0, 0, 0, 1, 0, []), some (.iload_n 0, 12, 0, 0, 0, 0, 0, 0, []), some (.iload_n 3, 13, 0, 3, 0, 0, 0, 0, []), some (.iload_n 1, 14, 0, 1, 0, 0, 0, 0, []), some (.invokestatic 73, 17, 0, 25, 3, 680, 0, 0, []), none]
def am_t_X2_isOrder_1 : List (Option am_I) := [none, some (.ishl, 18, 0, 0, 0, 0, 0, 0, []), some (.ior, 19, 0, 0, 0, 0, 0, 0, []), some (.istore_n 2, 20, 0, 2, 0, 0, 0, 0, []), some (.iinc 3 1, 23, 0, 3, 0, 0, 1, 0, []), none, none, some (.goto (-19), 26, 4, 0, 0, 0, 0, 0, []), none, none, some (.iload_n 2, 27, 0, 2, 0, 0, 0, 0, []), some (.iconst 1, 28, 0, 0, 0, 0, 1, 0, []), some (.iload_n 1, 29, 0, 1, 0, 0, 0, 0, []), some (.ishl, 30, 0, 0, 0, 0, 0, 0, []), some (.iconst 1, 31, 0, 0, 0, 0, 1, 0, []), some (.isub, 32, 0, 0, 0, 0, 0, 0, [])]
def am_t_X2_isOrder_2 : List (Option am_I) := [some (.if_icmp .ne 7, 35, 39, 0, 0, 0, 0, 0, []), none, none, some (.iconst 1, 36, 0, 0, 0, 0, 1, 0, []), some (.goto 4, 39, 40, 0, 0, 0, 0, 0, []), none, none, some (.iconst 0, 40, 0, 0, 0, 0, 0, 0, []), some (.ireturn, 41, 1, 0, 0, 0, 0, 0, [])]
def am_t_X2_isOrder : am_T := [am_t_X2_isOrder_0, am_t_X2_isOrder_1, am_t_X2_isOrder_2]
theorem am_q_X2_isOrder_0 : am_okQ (am_ok1 am_mt yX2_isOrder.cls yX2_isOrder.name cX2_isOrder 4 (some .boolean)) 0 am_t_X2_isOrder_0 = true := by decide +kernel
theorem am_q_X2_isOrder_1 : am_okQ (am_ok1 am_mt yX2_isOrder.cls yX2_isOrder.name cX2_isOrder 4 (some .boolean)) 1 am_t_X2_isOrder_1 = true := by decide +kernel
theorem am_q_X2_isOrder_2 : am_okQ (am_ok1 am_mt yX2_isOrder.cls yX2_isOrder.name cX2_isOrder 4 (some .boolean)) 2 am_t_X2_isOrder_2 = true := by decide +kernel
theorem am_q_X2_isOrder : am_okT (am_ok1 am_mt yX2_isOrder.cls yX2_isOrder.name cX2_isOrder 4 (some .boolean)) 0 am_t_X2_isOrder = true := am_okT_c am_q_X2_isOrder_0 (am_okT_c am_q_X2_isOrder_1 (am_okT_c am_q_X2_isOrder_2 (rfl)))
def am_m_X2_isOrder : am_M := (yX2_isOrder, cX2_isOrder, 4, (some .boolean), 0, 679, 86, 678, 0, 2, am_t_X2_isOrder)
theorem am_k_X2_isOrder : am_okM am_mt am_m_X2_isOrder := ⟨by decide +kernel, am_q_X2_isOrder⟩
def am_t_X2_carriedInOrder_0 : List (Option am_I) := [some (.iconst 0, 1, 0, 0, 0, 0, 0, 0, []), some (.istore_n 3, 2, 0, 3, 0, 0, 0, 0, []), some (.iconst 0, 3, 0, 0, 0, 0, 0, 0, []), some (.istore 4, 5, 0, 4, 0, 0, 0, 0, []), none, some (.iload 4, 7, 0, 4, 0, 0, 0, 0, []), none, some (.iload_n 2, 8, 0, 2, 0, 0, 0, 0, []), some (.if_icmp .ge 37, 11, 45, 0, 0, 0, 0, 0, []), none, none, some (.aload_n 0, 12, 0, 0, 0, 0, 0, 0, []), some (.getfield 9, 15, 0, 2, 2, 233, 0, 0, []), none, none, some (.iload 4, 17, 0, 4, 0, 0, 0, 0, [])]
def am_t_X2_carriedInOrder_1 : List (Option am_I) := [none, some (.iaload, 18, 0, 0, 0, 0, 0, 0, []), some (.aload_n 0, 19, 0, 0, 0, 0, 0, 0, []), some (.getfield 15, 22, 0, 2, 0, 231, 0, 0, []), none, none, some (.getfield 76, 25, 0, 3, 6, 149, 0, 0, []), none, none, some (.iload_n 1, 26, 0, 1, 0, 0, 0, 0, []), some (.iload 4, 28, 0, 4, 0, 0, 0, 0, []), none, some (.iload_n 2, 29, 0, 2, 0, 0, 0, 0, []), some (.invokestatic 73, 32, 0, 25, 3, 680, 0, 0, []), none, none]
def am_t_X2_carriedInOrder_2 : List (Option am_I) := [some (.iaload, 33, 0, 0, 0, 0, 0, 0, []), some (.if_icmp .lt 6, 36, 39, 0, 0, 0, 0, 0, []), none, none, some (.iinc 3 1, 39, 0, 3, 0, 0, 1, 0, []), none, none, some (.iinc 4 1, 42, 0, 4, 0, 0, 1, 0, []), none, none, some (.goto (-37), 45, 5, 0, 0, 0, 0, 0, []), none, none, some (.iload_n 3, 46, 0, 3, 0, 0, 0, 0, []), some (.ireturn, 47, 0, 0, 0, 0, 0, 0, [])]
def am_t_X2_carriedInOrder : am_T := [am_t_X2_carriedInOrder_0, am_t_X2_carriedInOrder_1, am_t_X2_carriedInOrder_2]
theorem am_q_X2_carriedInOrder_0 : am_okQ (am_ok1 am_mt yX2_carriedInOrder.cls yX2_carriedInOrder.name cX2_carriedInOrder 5 (some .int)) 0 am_t_X2_carriedInOrder_0 = true := by decide +kernel
theorem am_q_X2_carriedInOrder_1 : am_okQ (am_ok1 am_mt yX2_carriedInOrder.cls yX2_carriedInOrder.name cX2_carriedInOrder 5 (some .int)) 1 am_t_X2_carriedInOrder_1 = true := by decide +kernel
theorem am_q_X2_carriedInOrder_2 : am_okQ (am_ok1 am_mt yX2_carriedInOrder.cls yX2_carriedInOrder.name cX2_carriedInOrder 5 (some .int)) 2 am_t_X2_carriedInOrder_2 = true := by decide +kernel
theorem am_q_X2_carriedInOrder : am_okT (am_ok1 am_mt yX2_carriedInOrder.cls yX2_carriedInOrder.name cX2_carriedInOrder 5 (some .int)) 0 am_t_X2_carriedInOrder = true := am_okT_c am_q_X2_carriedInOrder_0 (am_okT_c am_q_X2_carriedInOrder_1 (am_okT_c am_q_X2_carriedInOrder_2 (rfl)))
def am_m_X2_carriedInOrder : am_M := (yX2_carriedInOrder, cX2_carriedInOrder, 5, (some .int), 1, 686, 86, 685, 16, 2, am_t_X2_carriedInOrder)
theorem am_k_X2_carriedInOrder : am_okM am_mt am_m_X2_carriedInOrder := ⟨by decide +kernel, am_q_X2_carriedInOrder⟩
def am_t_X2_fewestLozenges_0 : List (Option am_I) := [some (.aload_n 0, 1, 0, 0, 0, 0, 0, 0, []), some (.getfield 15, 4, 0, 2, 0, 231, 0, 0, []), none, none, some (.getfield 79, 7, 0, 3, 3, 138, 0, 0, []), none, none, some (.istore_n 2, 8, 0, 2, 0, 0, 0, 0, []), some (.iload_n 1, 9, 0, 1, 0, 0, 0, 0, []), some (.iload_n 2, 10, 0, 2, 0, 0, 0, 0, []), some (.if_icmp .lt 6, 13, 16, 0, 0, 0, 0, 0, []), none, none, some (.ldc 51, 15, 0, 0, 0, 628, (-1000000), 0, []), none, some (.ireturn, 16, 0, 0, 0, 0, 0, 0, [])]
def am_t_X2_fewestLozenges_1 : List (Option am_I) := [some (.ldc 51, 18, 0, 0, 0, 628, (-1000000), 0, []), none, some (.istore_n 3, 19, 0, 3, 0, 0, 0, 0, []), some (.iconst 0, 20, 0, 0, 0, 0, 0, 0, []), some (.istore 4, 22, 0, 4, 0, 0, 0, 0, []), none, some (.aload_n 0, 23, 0, 0, 0, 0, 0, 0, []), some (.getfield 19, 26, 0, 2, 1, 232, 0, 0, []), none, none, some (.aload_n 0, 27, 0, 0, 0, 0, 0, 0, []), some (.getfield 15, 30, 0, 2, 0, 231, 0, 0, []), none, none, some (.invokevirtual 60, 33, 3, 38, 1, 675, 0, 0, []), none]
def am_t_X2_fewestLozenges_2 : List (Option am_I) := [none, some (.iconst 0, 34, 0, 0, 0, 0, 0, 0, []), some (.istore 5, 36, 0, 5, 0, 0, 0, 0, []), none, some (.iload 5, 38, 0, 5, 0, 0, 0, 0, []), none, some (.iconst 1, 39, 0, 0, 0, 0, 1, 0, []), some (.iconst 2, 40, 0, 0, 0, 0, 2, 0, []), some (.iload_n 2, 41, 0, 2, 0, 0, 0, 0, []), some (.imul, 42, 0, 0, 0, 0, 0, 0, []), some (.ishl, 43, 0, 0, 0, 0, 0, 0, []), some (.if_icmp .ge 47, 46, 90, 0, 0, 0, 0, 0, []), none, none, some (.aload_n 0, 47, 0, 0, 0, 0, 0, 0, []), some (.iload 5, 49, 0, 5, 0, 0, 0, 0, [])]
def am_t_X2_fewestLozenges_3 : List (Option am_I) := [none, some (.invokevirtual 82, 52, 2, 29, 1, 695, 0, 0, []), none, none, some (.istore 6, 54, 0, 6, 0, 0, 0, 0, []), none, some (.iload_n 3, 55, 0, 3, 0, 0, 0, 0, []), some (.ldc 51, 57, 0, 0, 0, 628, (-1000000), 0, []), none, some (.if_icmp .eq 10, 60, 67, 0, 0, 0, 0, 0, []), none, none, some (.iload 6, 62, 0, 6, 0, 0, 0, 0, []), none, some (.iload 4, 64, 0, 4, 0, 0, 0, 0, []), none]
def am_t_X2_fewestLozenges_4 : List (Option am_I) := [some (.if_icmp .ge 20, 67, 84, 0, 0, 0, 0, 0, []), none, none, some (.aload_n 0, 68, 0, 0, 0, 0, 0, 0, []), some (.getfield 19, 71, 0, 2, 1, 232, 0, 0, []), none, none, some (.invokevirtual 85, 74, 3, 50, 0, 700, 0, 0, []), none, none, some (.ifCond .eq 10, 77, 84, 0, 0, 0, 0, 0, []), none, none, some (.iload 5, 79, 0, 5, 0, 0, 0, 0, []), none, some (.istore_n 3, 80, 0, 3, 0, 0, 0, 0, [])]
def am_t_X2_fewestLozenges_5 : List (Option am_I) := [some (.iload 6, 82, 0, 6, 0, 0, 0, 0, []), none, some (.istore 4, 84, 0, 4, 0, 0, 0, 0, []), none, some (.iinc 5 1, 87, 0, 5, 0, 0, 1, 0, []), none, none, some (.goto (-51), 90, 36, 0, 0, 0, 0, 0, []), none, none, some (.iload_n 3, 91, 0, 3, 0, 0, 0, 0, []), some (.ldc 51, 93, 0, 0, 0, 628, (-1000000), 0, []), none, some (.if_icmp .ne 6, 96, 99, 0, 0, 0, 0, 0, []), none, none]
def am_t_X2_fewestLozenges_6 : List (Option am_I) := [some (.ldc 51, 98, 0, 0, 0, 628, (-1000000), 0, []), none, some (.ireturn, 99, 0, 0, 0, 0, 0, 0, []), some (.iload_n 1, 100, 0, 1, 0, 0, 0, 0, []), some (.ifCond .ge 8, 103, 108, 0, 0, 0, 0, 0, []), none, none, some (.iload 4, 105, 0, 4, 0, 0, 0, 0, []), none, some (.goto 9, 108, 114, 0, 0, 0, 0, 0, []), none, none, some (.iload_n 3, 109, 0, 3, 0, 0, 0, 0, []), some (.iload_n 1, 110, 0, 1, 0, 0, 0, 0, []), some (.iload_n 2, 111, 0, 2, 0, 0, 0, 0, []), some (.invokestatic 73, 114, 0, 25, 3, 680, 0, 0, [])]
def am_t_X2_fewestLozenges_7 : List (Option am_I) := [none, none, some (.ireturn, 115, 0, 0, 0, 0, 0, 0, [])]
def am_t_X2_fewestLozenges : am_T := [am_t_X2_fewestLozenges_0, am_t_X2_fewestLozenges_1, am_t_X2_fewestLozenges_2, am_t_X2_fewestLozenges_3, am_t_X2_fewestLozenges_4, am_t_X2_fewestLozenges_5, am_t_X2_fewestLozenges_6, am_t_X2_fewestLozenges_7]
theorem am_q_X2_fewestLozenges_0 : am_okQ (am_ok1 am_mt yX2_fewestLozenges.cls yX2_fewestLozenges.name cX2_fewestLozenges 7 (some .int)) 0 am_t_X2_fewestLozenges_0 = true := by decide +kernel
theorem am_q_X2_fewestLozenges_1 : am_okQ (am_ok1 am_mt yX2_fewestLozenges.cls yX2_fewestLozenges.name cX2_fewestLozenges 7 (some .int)) 1 am_t_X2_fewestLozenges_1 = true := by decide +kernel
theorem am_q_X2_fewestLozenges_2 : am_okQ (am_ok1 am_mt yX2_fewestLozenges.cls yX2_fewestLozenges.name cX2_fewestLozenges 7 (some .int)) 2 am_t_X2_fewestLozenges_2 = true := by decide +kernel
theorem am_q_X2_fewestLozenges_3 : am_okQ (am_ok1 am_mt yX2_fewestLozenges.cls yX2_fewestLozenges.name cX2_fewestLozenges 7 (some .int)) 3 am_t_X2_fewestLozenges_3 = true := by decide +kernel
theorem am_q_X2_fewestLozenges_4 : am_okQ (am_ok1 am_mt yX2_fewestLozenges.cls yX2_fewestLozenges.name cX2_fewestLozenges 7 (some .int)) 4 am_t_X2_fewestLozenges_4 = true := by decide +kernel
theorem am_q_X2_fewestLozenges_5 : am_okQ (am_ok1 am_mt yX2_fewestLozenges.cls yX2_fewestLozenges.name cX2_fewestLozenges 7 (some .int)) 5 am_t_X2_fewestLozenges_5 = true := by decide +kernel
theorem am_q_X2_fewestLozenges_6 : am_okQ (am_ok1 am_mt yX2_fewestLozenges.cls yX2_fewestLozenges.name cX2_fewestLozenges 7 (some .int)) 6 am_t_X2_fewestLozenges_6 = true := by decide +kernel
theorem am_q_X2_fewestLozenges_7 : am_okQ (am_ok1 am_mt yX2_fewestLozenges.cls yX2_fewestLozenges.name cX2_fewestLozenges 7 (some .int)) 7 am_t_X2_fewestLozenges_7 = true := by decide +kernel
theorem am_q_X2_fewestLozenges : am_okT (am_ok1 am_mt yX2_fewestLozenges.cls yX2_fewestLozenges.name cX2_fewestLozenges 7 (some .int)) 0 am_t_X2_fewestLozenges = true := am_okT_c am_q_X2_fewestLozenges_0 (am_okT_c am_q_X2_fewestLozenges_1 (am_okT_c am_q_X2_fewestLozenges_2 (am_okT_c am_q_X2_fewestLozenges_3 (am_okT_c am_q_X2_fewestLozenges_4 (am_okT_c am_q_X2_fewestLozenges_5 (am_okT_c am_q_X2_fewestLozenges_6 (am_okT_c am_q_X2_fewestLozenges_7 (rfl))))))))
def am_m_X2_fewestLozenges : am_M := (yX2_fewestLozenges, cX2_fewestLozenges, 7, (some .int), 1, 694, 86, 692, 693, 1, am_t_X2_fewestLozenges)
theorem am_k_X2_fewestLozenges : am_okM am_mt am_m_X2_fewestLozenges := ⟨by decide +kernel, am_q_X2_fewestLozenges⟩
def am_t_X2_give_0 : List (Option am_I) := [some (.iconst 0, 1, 0, 0, 0, 0, 0, 0, []), some (.istore_n 2, 2, 0, 2, 0, 0, 0, 0, []), some (.iconst 0, 3, 0, 0, 0, 0, 0, 0, []), some (.istore_n 3, 4, 0, 3, 0, 0, 0, 0, []), some (.iload_n 3, 5, 0, 3, 0, 0, 0, 0, []), some (.aload_n 0, 6, 0, 0, 0, 0, 0, 0, []), some (.getfield 15, 9, 0, 2, 0, 231, 0, 0, []), none, none, some (.getfield 79, 12, 0, 3, 3, 138, 0, 0, []), none, none, some (.if_icmp .ge 51, 15, 63, 0, 0, 0, 0, 0, []), none, none, some (.iload_n 1, 16, 0, 1, 0, 0, 0, 0, [])]
def am_t_X2_give_1 : List (Option am_I) := [some (.iload_n 3, 17, 0, 3, 0, 0, 0, 0, []), some (.aload_n 0, 18, 0, 0, 0, 0, 0, 0, []), some (.getfield 15, 21, 0, 2, 0, 231, 0, 0, []), none, none, some (.getfield 79, 24, 0, 3, 3, 138, 0, 0, []), none, none, some (.invokestatic 73, 27, 0, 25, 3, 680, 0, 0, []), none, none, some (.istore 4, 29, 0, 4, 0, 0, 0, 0, []), none, some (.aload_n 0, 30, 0, 0, 0, 0, 0, 0, []), some (.getfield 19, 33, 0, 2, 1, 232, 0, 0, []), none]
def am_t_X2_give_2 : List (Option am_I) := [none, some (.getfield 89, 36, 0, 3, 8, 160, 0, 0, []), none, none, some (.iload_n 3, 37, 0, 3, 0, 0, 0, 0, []), some (.aload_n 0, 38, 0, 0, 0, 0, 0, 0, []), some (.getfield 15, 41, 0, 2, 0, 231, 0, 0, []), none, none, some (.getfield 89, 44, 0, 3, 8, 160, 0, 0, []), none, none, some (.iload_n 3, 45, 0, 3, 0, 0, 0, 0, []), some (.iaload, 46, 0, 0, 0, 0, 0, 0, []), some (.iload 4, 48, 0, 4, 0, 0, 0, 0, []), none]
def am_t_X2_give_3 : List (Option am_I) := [some (.invokestatic 92, 51, 1, 133, 2, 699, 0, 0, []), none, none, some (.iastore, 52, 0, 0, 0, 0, 0, 0, []), some (.iload_n 2, 53, 0, 2, 0, 0, 0, 0, []), some (.iload 4, 55, 0, 4, 0, 0, 0, 0, []), none, some (.iadd, 56, 0, 0, 0, 0, 0, 0, []), some (.istore_n 2, 57, 0, 2, 0, 0, 0, 0, []), some (.iinc 3 1, 60, 0, 3, 0, 0, 1, 0, []), none, none, some (.goto (-56), 63, 4, 0, 0, 0, 0, 0, []), none, none, some (.iload_n 2, 64, 0, 2, 0, 0, 0, 0, [])]
def am_t_X2_give_4 : List (Option am_I) := [some (.ireturn, 65, 0, 0, 0, 0, 0, 0, [])]
def am_t_X2_give : am_T := [am_t_X2_give_0, am_t_X2_give_1, am_t_X2_give_2, am_t_X2_give_3, am_t_X2_give_4]
theorem am_q_X2_give_0 : am_okQ (am_ok1 am_mt yX2_give.cls yX2_give.name cX2_give 5 (some .int)) 0 am_t_X2_give_0 = true := by decide +kernel
theorem am_q_X2_give_1 : am_okQ (am_ok1 am_mt yX2_give.cls yX2_give.name cX2_give 5 (some .int)) 1 am_t_X2_give_1 = true := by decide +kernel
theorem am_q_X2_give_2 : am_okQ (am_ok1 am_mt yX2_give.cls yX2_give.name cX2_give 5 (some .int)) 2 am_t_X2_give_2 = true := by decide +kernel
theorem am_q_X2_give_3 : am_okQ (am_ok1 am_mt yX2_give.cls yX2_give.name cX2_give 5 (some .int)) 3 am_t_X2_give_3 = true := by decide +kernel
theorem am_q_X2_give_4 : am_okQ (am_ok1 am_mt yX2_give.cls yX2_give.name cX2_give 5 (some .int)) 4 am_t_X2_give_4 = true := by decide +kernel
theorem am_q_X2_give : am_okT (am_ok1 am_mt yX2_give.cls yX2_give.name cX2_give 5 (some .int)) 0 am_t_X2_give = true := am_okT_c am_q_X2_give_0 (am_okT_c am_q_X2_give_1 (am_okT_c am_q_X2_give_2 (am_okT_c am_q_X2_give_3 (am_okT_c am_q_X2_give_4 (rfl)))))
def am_m_X2_give : am_M := (yX2_give, cX2_give, 5, (some .int), 1, 698, 86, 697, 17, 1, am_t_X2_give)
theorem am_k_X2_give : am_okM am_mt am_m_X2_give := ⟨by decide +kernel, am_q_X2_give⟩
def am_t_X2_breathLater_0 : List (Option am_I) := [some (.aload_n 0, 1, 0, 0, 0, 0, 0, 0, []), some (.getfield 19, 4, 0, 2, 1, 232, 0, 0, []), none, none, some (.aload_n 0, 5, 0, 0, 0, 0, 0, 0, []), some (.getfield 15, 8, 0, 2, 0, 231, 0, 0, []), none, none, some (.invokevirtual 60, 11, 3, 38, 1, 675, 0, 0, []), none, none, some (.aload_n 0, 12, 0, 0, 0, 0, 0, 0, []), some (.getfield 19, 15, 0, 2, 1, 232, 0, 0, []), none, none, some (.iload_n 2, 16, 0, 2, 0, 0, 0, 0, [])]
def am_t_X2_breathLater_1 : List (Option am_I) := [some (.invokevirtual 95, 19, 3, 52, 1, 713, 0, 0, []), none, none, some (.pop, 20, 0, 0, 0, 0, 0, 0, []), some (.aload_n 0, 21, 0, 0, 0, 0, 0, 0, []), some (.getfield 19, 24, 0, 2, 1, 232, 0, 0, []), none, none, some (.getfield 89, 27, 0, 3, 8, 160, 0, 0, []), none, none, some (.iload_n 1, 28, 0, 1, 0, 0, 0, 0, []), some (.iaload, 29, 0, 0, 0, 0, 0, 0, []), some (.ireturn, 30, 0, 0, 0, 0, 0, 0, [])]
def am_t_X2_breathLater : am_T := [am_t_X2_breathLater_0, am_t_X2_breathLater_1]
theorem am_q_X2_breathLater_0 : am_okQ (am_ok1 am_mt yX2_breathLater.cls yX2_breathLater.name cX2_breathLater 3 (some .int)) 0 am_t_X2_breathLater_0 = true := by decide +kernel
theorem am_q_X2_breathLater_1 : am_okQ (am_ok1 am_mt yX2_breathLater.cls yX2_breathLater.name cX2_breathLater 3 (some .int)) 1 am_t_X2_breathLater_1 = true := by decide +kernel
theorem am_q_X2_breathLater : am_okT (am_ok1 am_mt yX2_breathLater.cls yX2_breathLater.name cX2_breathLater 3 (some .int)) 0 am_t_X2_breathLater = true := am_okT_c am_q_X2_breathLater_0 (am_okT_c am_q_X2_breathLater_1 (rfl))
def am_m_X2_breathLater : am_M := (yX2_breathLater, cX2_breathLater, 3, (some .int), 1, 712, 86, 710, 711, 2, am_t_X2_breathLater)
theorem am_k_X2_breathLater : am_okM am_mt am_m_X2_breathLater := ⟨by decide +kernel, am_q_X2_breathLater⟩
def am_t_X2_carriedLater_0 : List (Option am_I) := [some (.aload_n 0, 1, 0, 0, 0, 0, 0, 0, []), some (.getfield 19, 4, 0, 2, 1, 232, 0, 0, []), none, none, some (.aload_n 0, 5, 0, 0, 0, 0, 0, 0, []), some (.getfield 15, 8, 0, 2, 0, 231, 0, 0, []), none, none, some (.invokevirtual 60, 11, 3, 38, 1, 675, 0, 0, []), none, none, some (.aload_n 0, 12, 0, 0, 0, 0, 0, 0, []), some (.getfield 19, 15, 0, 2, 1, 232, 0, 0, []), none, none, some (.iload_n 1, 16, 0, 1, 0, 0, 0, 0, [])]
def am_t_X2_carriedLater_1 : List (Option am_I) := [some (.invokevirtual 95, 19, 3, 52, 1, 713, 0, 0, []), none, none, some (.ireturn, 20, 0, 0, 0, 0, 0, 0, [])]
def am_t_X2_carriedLater : am_T := [am_t_X2_carriedLater_0, am_t_X2_carriedLater_1]
theorem am_q_X2_carriedLater_0 : am_okQ (am_ok1 am_mt yX2_carriedLater.cls yX2_carriedLater.name cX2_carriedLater 2 (some .int)) 0 am_t_X2_carriedLater_0 = true := by decide +kernel
theorem am_q_X2_carriedLater_1 : am_okQ (am_ok1 am_mt yX2_carriedLater.cls yX2_carriedLater.name cX2_carriedLater 2 (some .int)) 1 am_t_X2_carriedLater_1 = true := by decide +kernel
theorem am_q_X2_carriedLater : am_okT (am_ok1 am_mt yX2_carriedLater.cls yX2_carriedLater.name cX2_carriedLater 2 (some .int)) 0 am_t_X2_carriedLater = true := am_okT_c am_q_X2_carriedLater_0 (am_okT_c am_q_X2_carriedLater_1 (rfl))
def am_m_X2_carriedLater : am_M := (yX2_carriedLater, cX2_carriedLater, 2, (some .int), 1, 725, 86, 723, 724, 1, am_t_X2_carriedLater)
theorem am_k_X2_carriedLater : am_okM am_mt am_m_X2_carriedLater := ⟨by decide +kernel, am_q_X2_carriedLater⟩
def am_t_X2_carriedInColds_0 : List (Option am_I) := [some (.iconst 0, 1, 0, 0, 0, 0, 0, 0, []), some (.istore_n 3, 2, 0, 3, 0, 0, 0, 0, []), some (.iconst 0, 3, 0, 0, 0, 0, 0, 0, []), some (.istore 4, 5, 0, 4, 0, 0, 0, 0, []), none, some (.aload_n 0, 6, 0, 0, 0, 0, 0, 0, []), some (.getfield 19, 9, 0, 2, 1, 232, 0, 0, []), none, none, some (.aload_n 0, 10, 0, 0, 0, 0, 0, 0, []), some (.getfield 15, 13, 0, 2, 0, 231, 0, 0, []), none, none, some (.invokevirtual 60, 16, 3, 38, 1, 675, 0, 0, []), none, none]
def am_t_X2_carriedInColds_1 : List (Option am_I) := [some (.iconst 0, 17, 0, 0, 0, 0, 0, 0, []), some (.istore 5, 19, 0, 5, 0, 0, 0, 0, []), none, some (.iload 5, 21, 0, 5, 0, 0, 0, 0, []), none, some (.iconst 1, 22, 0, 0, 0, 0, 1, 0, []), some (.aload_n 0, 23, 0, 0, 0, 0, 0, 0, []), some (.getfield 15, 26, 0, 2, 0, 231, 0, 0, []), none, none, some (.getfield 79, 29, 0, 3, 3, 138, 0, 0, []), none, none, some (.ishl, 30, 0, 0, 0, 0, 0, 0, []), some (.if_icmp .ge 40, 33, 70, 0, 0, 0, 0, 0, []), none]
def am_t_X2_carriedInColds_2 : List (Option am_I) := [none, some (.aload_n 0, 34, 0, 0, 0, 0, 0, 0, []), some (.iload 5, 36, 0, 5, 0, 0, 0, 0, []), none, some (.iload_n 1, 37, 0, 1, 0, 0, 0, 0, []), some (.invokevirtual 98, 40, 2, 33, 2, 765, 0, 0, []), none, none, some (.istore 6, 42, 0, 6, 0, 0, 0, 0, []), none, some (.iload 4, 44, 0, 4, 0, 0, 0, 0, []), none, some (.iload 6, 46, 0, 6, 0, 0, 0, 0, []), none, some (.iadd, 47, 0, 0, 0, 0, 0, 0, []), some (.istore 4, 49, 0, 4, 0, 0, 0, 0, [])]
def am_t_X2_carriedInColds_3 : List (Option am_I) := [none, some (.aload_n 0, 50, 0, 0, 0, 0, 0, 0, []), some (.getfield 19, 53, 0, 2, 1, 232, 0, 0, []), none, none, some (.invokevirtual 85, 56, 3, 50, 0, 700, 0, 0, []), none, none, some (.ifCond .eq 8, 59, 64, 0, 0, 0, 0, 0, []), none, none, some (.iload_n 3, 60, 0, 3, 0, 0, 0, 0, []), some (.iload 6, 62, 0, 6, 0, 0, 0, 0, []), none, some (.iadd, 63, 0, 0, 0, 0, 0, 0, []), some (.istore_n 3, 64, 0, 3, 0, 0, 0, 0, [])]
def am_t_X2_carriedInColds_4 : List (Option am_I) := [some (.iinc 5 1, 67, 0, 5, 0, 0, 1, 0, []), none, none, some (.goto (-48), 70, 19, 0, 0, 0, 0, 0, []), none, none, some (.iload_n 3, 71, 0, 3, 0, 0, 0, 0, []), some (.iload 4, 73, 0, 4, 0, 0, 0, 0, []), none, some (.iload_n 2, 74, 0, 2, 0, 0, 0, 0, []), some (.invokestatic 28, 77, 1, 134, 3, 607, 0, 0, []), none, none, some (.ireturn, 78, 0, 0, 0, 0, 0, 0, [])]
def am_t_X2_carriedInColds : am_T := [am_t_X2_carriedInColds_0, am_t_X2_carriedInColds_1, am_t_X2_carriedInColds_2, am_t_X2_carriedInColds_3, am_t_X2_carriedInColds_4]
theorem am_q_X2_carriedInColds_0 : am_okQ (am_ok1 am_mt yX2_carriedInColds.cls yX2_carriedInColds.name cX2_carriedInColds 7 (some .int)) 0 am_t_X2_carriedInColds_0 = true := by decide +kernel
theorem am_q_X2_carriedInColds_1 : am_okQ (am_ok1 am_mt yX2_carriedInColds.cls yX2_carriedInColds.name cX2_carriedInColds 7 (some .int)) 1 am_t_X2_carriedInColds_1 = true := by decide +kernel
theorem am_q_X2_carriedInColds_2 : am_okQ (am_ok1 am_mt yX2_carriedInColds.cls yX2_carriedInColds.name cX2_carriedInColds 7 (some .int)) 2 am_t_X2_carriedInColds_2 = true := by decide +kernel
theorem am_q_X2_carriedInColds_3 : am_okQ (am_ok1 am_mt yX2_carriedInColds.cls yX2_carriedInColds.name cX2_carriedInColds 7 (some .int)) 3 am_t_X2_carriedInColds_3 = true := by decide +kernel
theorem am_q_X2_carriedInColds_4 : am_okQ (am_ok1 am_mt yX2_carriedInColds.cls yX2_carriedInColds.name cX2_carriedInColds 7 (some .int)) 4 am_t_X2_carriedInColds_4 = true := by decide +kernel
theorem am_q_X2_carriedInColds : am_okT (am_ok1 am_mt yX2_carriedInColds.cls yX2_carriedInColds.name cX2_carriedInColds 7 (some .int)) 0 am_t_X2_carriedInColds = true := am_okT_c am_q_X2_carriedInColds_0 (am_okT_c am_q_X2_carriedInColds_1 (am_okT_c am_q_X2_carriedInColds_2 (am_okT_c am_q_X2_carriedInColds_3 (am_okT_c am_q_X2_carriedInColds_4 (rfl)))))
def am_m_X2_carriedInColds : am_M := (yX2_carriedInColds, cX2_carriedInColds, 7, (some .int), 1, 764, 86, 762, 763, 2, am_t_X2_carriedInColds)
theorem am_k_X2_carriedInColds : am_okM am_mt am_m_X2_carriedInColds := ⟨by decide +kernel, am_q_X2_carriedInColds⟩
def am_t_X2_catchColds_0 : List (Option am_I) := [some (.iconst 1, 1, 0, 0, 0, 0, 1, 0, []), some (.istore_n 3, 2, 0, 3, 0, 0, 0, 0, []), some (.iconst 0, 3, 0, 0, 0, 0, 0, 0, []), some (.istore 4, 5, 0, 4, 0, 0, 0, 0, []), none, some (.iload 4, 7, 0, 4, 0, 0, 0, 0, []), none, some (.aload_n 0, 8, 0, 0, 0, 0, 0, 0, []), some (.getfield 15, 11, 0, 2, 0, 231, 0, 0, []), none, none, some (.getfield 79, 14, 0, 3, 3, 138, 0, 0, []), none, none, some (.if_icmp .ge 85, 17, 99, 0, 0, 0, 0, 0, []), none]
def am_t_X2_catchColds_1 : List (Option am_I) := [none, some (.iload_n 1, 18, 0, 1, 0, 0, 0, 0, []), some (.iload 4, 20, 0, 4, 0, 0, 0, 0, []), none, some (.ishr, 21, 0, 0, 0, 0, 0, 0, []), some (.iconst 1, 22, 0, 0, 0, 0, 1, 0, []), some (.iand, 23, 0, 0, 0, 0, 0, 0, []), some (.ifCond .eq 7, 26, 30, 0, 0, 0, 0, 0, []), none, none, some (.iconst 1, 27, 0, 0, 0, 0, 1, 0, []), some (.goto 4, 30, 31, 0, 0, 0, 0, 0, []), none, none, some (.iconst 0, 31, 0, 0, 0, 0, 0, 0, []), some (.istore 5, 33, 0, 5, 0, 0, 0, 0, [])]
def am_t_X2_catchColds_2 : List (Option am_I) := [none, some (.aload_n 0, 34, 0, 0, 0, 0, 0, 0, []), some (.getfield 19, 37, 0, 2, 1, 232, 0, 0, []), none, none, some (.getfield 89, 40, 0, 3, 8, 160, 0, 0, []), none, none, some (.iload 4, 42, 0, 4, 0, 0, 0, 0, []), none, some (.iload 5, 44, 0, 5, 0, 0, 0, 0, []), none, some (.ifCond .eq 22, 47, 66, 0, 0, 0, 0, 0, []), none, none, some (.iconst 0, 48, 0, 0, 0, 0, 0, 0, [])]
def am_t_X2_catchColds_3 : List (Option am_I) := [some (.aload_n 0, 49, 0, 0, 0, 0, 0, 0, []), some (.getfield 15, 52, 0, 2, 0, 231, 0, 0, []), none, none, some (.getfield 89, 55, 0, 3, 8, 160, 0, 0, []), none, none, some (.iload 4, 57, 0, 4, 0, 0, 0, 0, []), none, some (.iaload, 58, 0, 0, 0, 0, 0, 0, []), some (.iconst 5, 59, 0, 0, 0, 0, 5, 0, []), some (.isub, 60, 0, 0, 0, 0, 0, 0, []), some (.invokestatic 101, 63, 0, 228, 2, 769, 0, 0, []), none, none, some (.goto 13, 66, 76, 0, 0, 0, 0, 0, [])]
def am_t_X2_catchColds_4 : List (Option am_I) := [none, none, some (.aload_n 0, 67, 0, 0, 0, 0, 0, 0, []), some (.getfield 15, 70, 0, 2, 0, 231, 0, 0, []), none, none, some (.getfield 89, 73, 0, 3, 8, 160, 0, 0, []), none, none, some (.iload 4, 75, 0, 4, 0, 0, 0, 0, []), none, some (.iaload, 76, 0, 0, 0, 0, 0, 0, []), some (.iastore, 77, 0, 0, 0, 0, 0, 0, []), some (.iload_n 3, 78, 0, 3, 0, 0, 0, 0, []), some (.iload 5, 80, 0, 5, 0, 0, 0, 0, []), none]
def am_t_X2_catchColds_5 : List (Option am_I) := [some (.ifCond .eq 7, 83, 87, 0, 0, 0, 0, 0, []), none, none, some (.iload_n 2, 84, 0, 2, 0, 0, 0, 0, []), some (.goto 7, 87, 91, 0, 0, 0, 0, 0, []), none, none, some (.bipush 10, 89, 0, 0, 0, 0, 10, 0, []), none, some (.iload_n 2, 90, 0, 2, 0, 0, 0, 0, []), some (.isub, 91, 0, 0, 0, 0, 0, 0, []), some (.imul, 92, 0, 0, 0, 0, 0, 0, []), some (.istore_n 3, 93, 0, 3, 0, 0, 0, 0, []), some (.iinc 4 1, 96, 0, 4, 0, 0, 1, 0, []), none, none]
def am_t_X2_catchColds_6 : List (Option am_I) := [some (.goto (-91), 99, 5, 0, 0, 0, 0, 0, []), none, none, some (.iload_n 3, 100, 0, 3, 0, 0, 0, 0, []), some (.ireturn, 101, 0, 0, 0, 0, 0, 0, [])]
def am_t_X2_catchColds : am_T := [am_t_X2_catchColds_0, am_t_X2_catchColds_1, am_t_X2_catchColds_2, am_t_X2_catchColds_3, am_t_X2_catchColds_4, am_t_X2_catchColds_5, am_t_X2_catchColds_6]
theorem am_q_X2_catchColds_0 : am_okQ (am_ok1 am_mt yX2_catchColds.cls yX2_catchColds.name cX2_catchColds 6 (some .int)) 0 am_t_X2_catchColds_0 = true := by decide +kernel
theorem am_q_X2_catchColds_1 : am_okQ (am_ok1 am_mt yX2_catchColds.cls yX2_catchColds.name cX2_catchColds 6 (some .int)) 1 am_t_X2_catchColds_1 = true := by decide +kernel
theorem am_q_X2_catchColds_2 : am_okQ (am_ok1 am_mt yX2_catchColds.cls yX2_catchColds.name cX2_catchColds 6 (some .int)) 2 am_t_X2_catchColds_2 = true := by decide +kernel
theorem am_q_X2_catchColds_3 : am_okQ (am_ok1 am_mt yX2_catchColds.cls yX2_catchColds.name cX2_catchColds 6 (some .int)) 3 am_t_X2_catchColds_3 = true := by decide +kernel
theorem am_q_X2_catchColds_4 : am_okQ (am_ok1 am_mt yX2_catchColds.cls yX2_catchColds.name cX2_catchColds 6 (some .int)) 4 am_t_X2_catchColds_4 = true := by decide +kernel
theorem am_q_X2_catchColds_5 : am_okQ (am_ok1 am_mt yX2_catchColds.cls yX2_catchColds.name cX2_catchColds 6 (some .int)) 5 am_t_X2_catchColds_5 = true := by decide +kernel
theorem am_q_X2_catchColds_6 : am_okQ (am_ok1 am_mt yX2_catchColds.cls yX2_catchColds.name cX2_catchColds 6 (some .int)) 6 am_t_X2_catchColds_6 = true := by decide +kernel
theorem am_q_X2_catchColds : am_okT (am_ok1 am_mt yX2_catchColds.cls yX2_catchColds.name cX2_catchColds 6 (some .int)) 0 am_t_X2_catchColds = true := am_okT_c am_q_X2_catchColds_0 (am_okT_c am_q_X2_catchColds_1 (am_okT_c am_q_X2_catchColds_2 (am_okT_c am_q_X2_catchColds_3 (am_okT_c am_q_X2_catchColds_4 (am_okT_c am_q_X2_catchColds_5 (am_okT_c am_q_X2_catchColds_6 (rfl)))))))
def am_m_X2_catchColds : am_M := (yX2_catchColds, cX2_catchColds, 6, (some .int), 1, 768, 86, 767, 19, 2, am_t_X2_catchColds)
theorem am_k_X2_catchColds : am_okM am_mt am_m_X2_catchColds := ⟨by decide +kernel, am_q_X2_catchColds⟩
def am_t_X2_sessions_0 : List (Option am_I) := [some (.aload_n 0, 1, 0, 0, 0, 0, 0, 0, []), some (.getfield 19, 4, 0, 2, 1, 232, 0, 0, []), none, none, some (.aload_n 0, 5, 0, 0, 0, 0, 0, 0, []), some (.getfield 15, 8, 0, 2, 0, 231, 0, 0, []), none, none, some (.invokevirtual 60, 11, 3, 38, 1, 675, 0, 0, []), none, none, some (.iload_n 2, 12, 0, 2, 0, 0, 0, 0, []), some (.i2l, 13, 0, 0, 0, 0, 0, 0, []), some (.lstore 4, 15, 0, 4, 0, 0, 0, 0, []), none, some (.iconst 0, 16, 0, 0, 0, 0, 0, 0, [])]
def am_t_X2_sessions_1 : List (Option am_I) := [some (.istore 6, 18, 0, 6, 0, 0, 0, 0, []), none, some (.iconst 0, 19, 0, 0, 0, 0, 0, 0, []), some (.istore 7, 21, 0, 7, 0, 0, 0, 0, []), none, some (.iload 7, 23, 0, 7, 0, 0, 0, 0, []), none, some (.iload_n 1, 24, 0, 1, 0, 0, 0, 0, []), some (.if_icmp .ge 54, 27, 78, 0, 0, 0, 0, 0, []), none, none, some (.lload 4, 29, 0, 4, 0, 0, 0, 0, []), none, some (.ldc2_w 106, 32, 0, 0, 0, 781, 0, 16807, []), none, none]
def am_t_X2_sessions_2 : List (Option am_I) := [some (.lmul, 33, 0, 0, 0, 0, 0, 0, []), some (.ldc2_w 108, 36, 0, 0, 0, 782, 0, 2147483647, []), none, none, some (.lrem, 37, 0, 0, 0, 0, 0, 0, []), some (.lstore 4, 39, 0, 4, 0, 0, 0, 0, []), none, some (.aload_n 0, 40, 0, 0, 0, 0, 0, 0, []), some (.getfield 19, 43, 0, 2, 1, 232, 0, 0, []), none, none, some (.invokevirtual 22, 46, 3, 45, 0, 606, 0, 0, []), none, none, some (.istore 8, 48, 0, 8, 0, 0, 0, 0, []), none]
def am_t_X2_sessions_3 : List (Option am_I) := [some (.iload 6, 50, 0, 6, 0, 0, 0, 0, []), none, some (.aload_n 0, 51, 0, 0, 0, 0, 0, 0, []), some (.getfield 19, 54, 0, 2, 1, 232, 0, 0, []), none, none, some (.iload 8, 56, 0, 8, 0, 0, 0, 0, []), none, some (.lload 4, 58, 0, 4, 0, 0, 0, 0, []), none, some (.ldc2_w 110, 61, 0, 0, 0, 783, 0, 16, []), none, none, some (.lrem, 62, 0, 0, 0, 0, 0, 0, []), some (.l2i, 63, 0, 0, 0, 0, 0, 0, []), some (.iand, 64, 0, 0, 0, 0, 0, 0, [])]
def am_t_X2_sessions_4 : List (Option am_I) := [some (.iload 8, 66, 0, 8, 0, 0, 0, 0, []), none, some (.invokevirtual 64, 69, 3, 51, 2, 676, 0, 0, []), none, none, some (.iadd, 70, 0, 0, 0, 0, 0, 0, []), some (.istore 6, 72, 0, 6, 0, 0, 0, 0, []), none, some (.iinc 7 1, 75, 0, 7, 0, 0, 1, 0, []), none, none, some (.goto (-54), 78, 21, 0, 0, 0, 0, 0, []), none, none, some (.iload_n 3, 79, 0, 3, 0, 0, 0, 0, []), some (.ifCond .ne 8, 82, 87, 0, 0, 0, 0, 0, [])]
def am_t_X2_sessions_5 : List (Option am_I) := [none, none, some (.iload 6, 84, 0, 6, 0, 0, 0, 0, []), none, some (.goto 7, 87, 91, 0, 0, 0, 0, 0, []), none, none, some (.aload_n 0, 88, 0, 0, 0, 0, 0, 0, []), some (.invokevirtual 112, 91, 2, 35, 0, 784, 0, 0, []), none, none, some (.ireturn, 92, 0, 0, 0, 0, 0, 0, [])]
def am_t_X2_sessions : am_T := [am_t_X2_sessions_0, am_t_X2_sessions_1, am_t_X2_sessions_2, am_t_X2_sessions_3, am_t_X2_sessions_4, am_t_X2_sessions_5]
theorem am_q_X2_sessions_0 : am_okQ (am_ok1 am_mt yX2_sessions.cls yX2_sessions.name cX2_sessions 9 (some .int)) 0 am_t_X2_sessions_0 = true := by decide +kernel
theorem am_q_X2_sessions_1 : am_okQ (am_ok1 am_mt yX2_sessions.cls yX2_sessions.name cX2_sessions 9 (some .int)) 1 am_t_X2_sessions_1 = true := by decide +kernel
theorem am_q_X2_sessions_2 : am_okQ (am_ok1 am_mt yX2_sessions.cls yX2_sessions.name cX2_sessions 9 (some .int)) 2 am_t_X2_sessions_2 = true := by decide +kernel
theorem am_q_X2_sessions_3 : am_okQ (am_ok1 am_mt yX2_sessions.cls yX2_sessions.name cX2_sessions 9 (some .int)) 3 am_t_X2_sessions_3 = true := by decide +kernel
theorem am_q_X2_sessions_4 : am_okQ (am_ok1 am_mt yX2_sessions.cls yX2_sessions.name cX2_sessions 9 (some .int)) 4 am_t_X2_sessions_4 = true := by decide +kernel
theorem am_q_X2_sessions_5 : am_okQ (am_ok1 am_mt yX2_sessions.cls yX2_sessions.name cX2_sessions 9 (some .int)) 5 am_t_X2_sessions_5 = true := by decide +kernel
theorem am_q_X2_sessions : am_okT (am_ok1 am_mt yX2_sessions.cls yX2_sessions.name cX2_sessions 9 (some .int)) 0 am_t_X2_sessions = true := am_okT_c am_q_X2_sessions_0 (am_okT_c am_q_X2_sessions_1 (am_okT_c am_q_X2_sessions_2 (am_okT_c am_q_X2_sessions_3 (am_okT_c am_q_X2_sessions_4 (am_okT_c am_q_X2_sessions_5 (rfl))))))
def am_m_X2_sessions : am_M := (yX2_sessions, cX2_sessions, 9, (some .int), 1, 780, 86, 778, 779, 3, am_t_X2_sessions)
theorem am_k_X2_sessions : am_okM am_mt am_m_X2_sessions := ⟨by decide +kernel, am_q_X2_sessions⟩
def am_t_X2_breathOfAll_0 : List (Option am_I) := [some (.iconst 0, 1, 0, 0, 0, 0, 0, 0, []), some (.istore_n 1, 2, 0, 1, 0, 0, 0, 0, []), some (.iconst 0, 3, 0, 0, 0, 0, 0, 0, []), some (.istore_n 2, 4, 0, 2, 0, 0, 0, 0, []), some (.iload_n 2, 5, 0, 2, 0, 0, 0, 0, []), some (.aload_n 0, 6, 0, 0, 0, 0, 0, 0, []), some (.getfield 19, 9, 0, 2, 1, 232, 0, 0, []), none, none, some (.getfield 79, 12, 0, 3, 3, 138, 0, 0, []), none, none, some (.if_icmp .ge 21, 15, 33, 0, 0, 0, 0, 0, []), none, none, some (.iload_n 1, 16, 0, 1, 0, 0, 0, 0, [])]
def am_t_X2_breathOfAll_1 : List (Option am_I) := [some (.aload_n 0, 17, 0, 0, 0, 0, 0, 0, []), some (.getfield 19, 20, 0, 2, 1, 232, 0, 0, []), none, none, some (.getfield 89, 23, 0, 3, 8, 160, 0, 0, []), none, none, some (.iload_n 2, 24, 0, 2, 0, 0, 0, 0, []), some (.iaload, 25, 0, 0, 0, 0, 0, 0, []), some (.iadd, 26, 0, 0, 0, 0, 0, 0, []), some (.istore_n 1, 27, 0, 1, 0, 0, 0, 0, []), some (.iinc 2 1, 30, 0, 2, 0, 0, 1, 0, []), none, none, some (.goto (-26), 33, 4, 0, 0, 0, 0, 0, []), none]
def am_t_X2_breathOfAll_2 : List (Option am_I) := [none, some (.iload_n 1, 34, 0, 1, 0, 0, 0, 0, []), some (.ireturn, 35, 0, 0, 0, 0, 0, 0, [])]
def am_t_X2_breathOfAll : am_T := [am_t_X2_breathOfAll_0, am_t_X2_breathOfAll_1, am_t_X2_breathOfAll_2]
theorem am_q_X2_breathOfAll_0 : am_okQ (am_ok1 am_mt yX2_breathOfAll.cls yX2_breathOfAll.name cX2_breathOfAll 3 (some .int)) 0 am_t_X2_breathOfAll_0 = true := by decide +kernel
theorem am_q_X2_breathOfAll_1 : am_okQ (am_ok1 am_mt yX2_breathOfAll.cls yX2_breathOfAll.name cX2_breathOfAll 3 (some .int)) 1 am_t_X2_breathOfAll_1 = true := by decide +kernel
theorem am_q_X2_breathOfAll_2 : am_okQ (am_ok1 am_mt yX2_breathOfAll.cls yX2_breathOfAll.name cX2_breathOfAll 3 (some .int)) 2 am_t_X2_breathOfAll_2 = true := by decide +kernel
theorem am_q_X2_breathOfAll : am_okT (am_ok1 am_mt yX2_breathOfAll.cls yX2_breathOfAll.name cX2_breathOfAll 3 (some .int)) 0 am_t_X2_breathOfAll = true := am_okT_c am_q_X2_breathOfAll_0 (am_okT_c am_q_X2_breathOfAll_1 (am_okT_c am_q_X2_breathOfAll_2 (rfl)))
def am_m_X2_breathOfAll : am_M := (yX2_breathOfAll, cX2_breathOfAll, 3, (some .int), 1, 787, 86, 786, 20, 0, am_t_X2_breathOfAll)
theorem am_k_X2_breathOfAll : am_okM am_mt am_m_X2_breathOfAll := ⟨by decide +kernel, am_q_X2_breathOfAll⟩
def am_t_X3_init_0 : List (Option am_I) := [some (.aload_n 0, 1, 0, 0, 0, 0, 0, 0, []), some (.invokespecial 3, 4, 2, 0, 0, 124, 0, 0, []), none, none, some (.aload_n 0, 5, 0, 0, 0, 0, 0, 0, []), some (.iconst 4, 6, 0, 0, 0, 0, 4, 0, []), some (.newarray .int, 8, 0, 0, 4, 0, 0, 0, []), none, some (.putfield 9, 11, 2, 3, 6, 147, 0, 0, []), none, none, some (.aload_n 0, 12, 0, 0, 0, 0, 0, 0, []), some (.iconst 4, 13, 0, 0, 0, 0, 4, 0, []), some (.newarray .int, 15, 0, 0, 4, 0, 0, 0, []), none, some (.putfield 15, 18, 2, 3, 7, 151, 0, 0, [])]
def am_t_X3_init_1 : List (Option am_I) := [none, none, some (.aload_n 0, 19, 0, 0, 0, 0, 0, 0, []), some (.iconst 4, 20, 0, 0, 0, 0, 4, 0, []), some (.newarray .int, 22, 0, 0, 4, 0, 0, 0, []), none, some (.putfield 18, 25, 2, 3, 8, 155, 0, 0, []), none, none, some (.aload_n 0, 26, 0, 0, 0, 0, 0, 0, []), some (.iconst 4, 27, 0, 0, 0, 0, 4, 0, []), some (.newarray .int, 29, 0, 0, 4, 0, 0, 0, []), none, some (.putfield 21, 32, 2, 3, 9, 162, 0, 0, []), none, none]
def am_t_X3_init_2 : List (Option am_I) := [some (.return_, 33, 0, 0, 0, 0, 0, 0, [])]
def am_t_X3_init : am_T := [am_t_X3_init_0, am_t_X3_init_1, am_t_X3_init_2]
theorem am_q_X3_init_0 : am_okQ (am_ok1 am_mt yX3_init.cls yX3_init.name cX3_init 1 none) 0 am_t_X3_init_0 = true := by decide +kernel
theorem am_q_X3_init_1 : am_okQ (am_ok1 am_mt yX3_init.cls yX3_init.name cX3_init 1 none) 1 am_t_X3_init_1 = true := by decide +kernel
theorem am_q_X3_init_2 : am_okQ (am_ok1 am_mt yX3_init.cls yX3_init.name cX3_init 1 none) 2 am_t_X3_init_2 = true := by decide +kernel
theorem am_q_X3_init : am_okT (am_ok1 am_mt yX3_init.cls yX3_init.name cX3_init 1 none) 0 am_t_X3_init = true := am_okT_c am_q_X3_init_0 (am_okT_c am_q_X3_init_1 (am_okT_c am_q_X3_init_2 (rfl)))
def am_m_X3_init : am_M := (yX3_init, cX3_init, 1, none, 2, 123, 83, 122, 0, 0, am_t_X3_init)
theorem am_k_X3_init : am_okM am_mt am_m_X3_init := ⟨by decide +kernel, am_q_X3_init⟩
def am_t_X3_clear_0 : List (Option am_I) := [some (.aload_n 0, 1, 0, 0, 0, 0, 0, 0, []), some (.iconst 0, 2, 0, 0, 0, 0, 0, 0, []), some (.putfield 24, 5, 1, 3, 0, 125, 0, 0, []), none, none, some (.aload_n 0, 6, 0, 0, 0, 0, 0, 0, []), some (.iconst 0, 7, 0, 0, 0, 0, 0, 0, []), some (.putfield 28, 10, 0, 3, 1, 128, 0, 0, []), none, none, some (.aload_n 0, 11, 0, 0, 0, 0, 0, 0, []), some (.iconst 0, 12, 0, 0, 0, 0, 0, 0, []), some (.putfield 32, 15, 0, 3, 2, 132, 0, 0, []), none, none, some (.aload_n 0, 16, 0, 0, 0, 0, 0, 0, [])]
def am_t_X3_clear_1 : List (Option am_I) := [some (.iconst 0, 17, 0, 0, 0, 0, 0, 0, []), some (.putfield 35, 20, 0, 3, 3, 136, 0, 0, []), none, none, some (.aload_n 0, 21, 0, 0, 0, 0, 0, 0, []), some (.iconst 0, 22, 0, 0, 0, 0, 0, 0, []), some (.putfield 38, 25, 0, 3, 4, 140, 0, 0, []), none, none, some (.aload_n 0, 26, 0, 0, 0, 0, 0, 0, []), some (.iconst 0, 27, 0, 0, 0, 0, 0, 0, []), some (.putfield 41, 30, 0, 3, 5, 144, 0, 0, []), none, none, some (.return_, 31, 0, 0, 0, 0, 0, 0, [])]
def am_t_X3_clear : am_T := [am_t_X3_clear_0, am_t_X3_clear_1]
theorem am_q_X3_clear_0 : am_okQ (am_ok1 am_mt yX3_clear.cls yX3_clear.name cX3_clear 1 none) 0 am_t_X3_clear_0 = true := by decide +kernel
theorem am_q_X3_clear_1 : am_okQ (am_ok1 am_mt yX3_clear.cls yX3_clear.name cX3_clear 1 none) 1 am_t_X3_clear_1 = true := by decide +kernel
theorem am_q_X3_clear : am_okT (am_ok1 am_mt yX3_clear.cls yX3_clear.name cX3_clear 1 none) 0 am_t_X3_clear = true := am_okT_c am_q_X3_clear_0 (am_okT_c am_q_X3_clear_1 (rfl))
def am_m_X3_clear : am_M := (yX3_clear, cX3_clear, 1, none, 1, 429, 83, 427, 428, 0, am_t_X3_clear)
theorem am_k_X3_clear : am_okM am_mt am_m_X3_clear := ⟨by decide +kernel, am_q_X3_clear⟩
def am_t_X3_become_0 : List (Option am_I) := [some (.aload_n 0, 1, 0, 0, 0, 0, 0, 0, []), some (.aload_n 1, 2, 0, 1, 0, 0, 0, 0, []), some (.getfield 24, 5, 0, 3, 0, 125, 0, 0, []), none, none, some (.putfield 24, 8, 1, 3, 0, 125, 0, 0, []), none, none, some (.aload_n 0, 9, 0, 0, 0, 0, 0, 0, []), some (.aload_n 1, 10, 0, 1, 0, 0, 0, 0, []), some (.getfield 28, 13, 0, 3, 1, 128, 0, 0, []), none, none, some (.putfield 28, 16, 0, 3, 1, 128, 0, 0, []), none, none]
def am_t_X3_become_1 : List (Option am_I) := [some (.aload_n 0, 17, 0, 0, 0, 0, 0, 0, []), some (.aload_n 1, 18, 0, 1, 0, 0, 0, 0, []), some (.getfield 32, 21, 0, 3, 2, 132, 0, 0, []), none, none, some (.putfield 32, 24, 0, 3, 2, 132, 0, 0, []), none, none, some (.aload_n 0, 25, 0, 0, 0, 0, 0, 0, []), some (.aload_n 1, 26, 0, 1, 0, 0, 0, 0, []), some (.getfield 35, 29, 0, 3, 3, 136, 0, 0, []), none, none, some (.putfield 35, 32, 0, 3, 3, 136, 0, 0, []), none, none]
def am_t_X3_become_2 : List (Option am_I) := [some (.aload_n 0, 33, 0, 0, 0, 0, 0, 0, []), some (.aload_n 1, 34, 0, 1, 0, 0, 0, 0, []), some (.getfield 38, 37, 0, 3, 4, 140, 0, 0, []), none, none, some (.putfield 38, 40, 0, 3, 4, 140, 0, 0, []), none, none, some (.aload_n 0, 41, 0, 0, 0, 0, 0, 0, []), some (.aload_n 1, 42, 0, 1, 0, 0, 0, 0, []), some (.getfield 41, 45, 0, 3, 5, 144, 0, 0, []), none, none, some (.putfield 41, 48, 0, 3, 5, 144, 0, 0, []), none, none]
def am_t_X3_become_3 : List (Option am_I) := [some (.iconst 0, 49, 0, 0, 0, 0, 0, 0, []), some (.istore_n 2, 50, 0, 2, 0, 0, 0, 0, []), some (.iload_n 2, 51, 0, 2, 0, 0, 0, 0, []), some (.iconst 4, 52, 0, 0, 0, 0, 4, 0, []), some (.if_icmp .ge 21, 55, 73, 0, 0, 0, 0, 0, []), none, none, some (.aload_n 0, 56, 0, 0, 0, 0, 0, 0, []), some (.getfield 9, 59, 0, 3, 6, 147, 0, 0, []), none, none, some (.iload_n 2, 60, 0, 2, 0, 0, 0, 0, []), some (.aload_n 1, 61, 0, 1, 0, 0, 0, 0, []), some (.getfield 9, 64, 0, 3, 6, 147, 0, 0, []), none, none]
def am_t_X3_become_4 : List (Option am_I) := [some (.iload_n 2, 65, 0, 2, 0, 0, 0, 0, []), some (.iaload, 66, 0, 0, 0, 0, 0, 0, []), some (.iastore, 67, 0, 0, 0, 0, 0, 0, []), some (.iinc 2 1, 70, 0, 2, 0, 0, 1, 0, []), none, none, some (.goto (-20), 73, 50, 0, 0, 0, 0, 0, []), none, none, some (.iconst 0, 74, 0, 0, 0, 0, 0, 0, []), some (.istore_n 2, 75, 0, 2, 0, 0, 0, 0, []), some (.iload_n 2, 76, 0, 2, 0, 0, 0, 0, []), some (.iconst 4, 77, 0, 0, 0, 0, 4, 0, []), some (.if_icmp .ge 45, 80, 122, 0, 0, 0, 0, 0, []), none, none]
def am_t_X3_become_5 : List (Option am_I) := [some (.aload_n 0, 81, 0, 0, 0, 0, 0, 0, []), some (.getfield 15, 84, 0, 3, 7, 151, 0, 0, []), none, none, some (.iload_n 2, 85, 0, 2, 0, 0, 0, 0, []), some (.aload_n 1, 86, 0, 1, 0, 0, 0, 0, []), some (.getfield 15, 89, 0, 3, 7, 151, 0, 0, []), none, none, some (.iload_n 2, 90, 0, 2, 0, 0, 0, 0, []), some (.iaload, 91, 0, 0, 0, 0, 0, 0, []), some (.iastore, 92, 0, 0, 0, 0, 0, 0, []), some (.aload_n 0, 93, 0, 0, 0, 0, 0, 0, []), some (.getfield 18, 96, 0, 3, 8, 155, 0, 0, []), none, none]
def am_t_X3_become_6 : List (Option am_I) := [some (.iload_n 2, 97, 0, 2, 0, 0, 0, 0, []), some (.aload_n 1, 98, 0, 1, 0, 0, 0, 0, []), some (.getfield 18, 101, 0, 3, 8, 155, 0, 0, []), none, none, some (.iload_n 2, 102, 0, 2, 0, 0, 0, 0, []), some (.iaload, 103, 0, 0, 0, 0, 0, 0, []), some (.iastore, 104, 0, 0, 0, 0, 0, 0, []), some (.aload_n 0, 105, 0, 0, 0, 0, 0, 0, []), some (.getfield 21, 108, 0, 3, 9, 162, 0, 0, []), none, none, some (.iload_n 2, 109, 0, 2, 0, 0, 0, 0, []), some (.aload_n 1, 110, 0, 1, 0, 0, 0, 0, []), some (.getfield 21, 113, 0, 3, 9, 162, 0, 0, []), none]
def am_t_X3_become_7 : List (Option am_I) := [none, some (.iload_n 2, 114, 0, 2, 0, 0, 0, 0, []), some (.iaload, 115, 0, 0, 0, 0, 0, 0, []), some (.iastore, 116, 0, 0, 0, 0, 0, 0, []), some (.iinc 2 1, 119, 0, 2, 0, 0, 1, 0, []), none, none, some (.goto (-44), 122, 75, 0, 0, 0, 0, 0, []), none, none, some (.return_, 123, 0, 0, 0, 0, 0, 0, [])]
def am_t_X3_become : am_T := [am_t_X3_become_0, am_t_X3_become_1, am_t_X3_become_2, am_t_X3_become_3, am_t_X3_become_4, am_t_X3_become_5, am_t_X3_become_6, am_t_X3_become_7]
theorem am_q_X3_become_0 : am_okQ (am_ok1 am_mt yX3_become.cls yX3_become.name cX3_become 3 none) 0 am_t_X3_become_0 = true := by decide +kernel
theorem am_q_X3_become_1 : am_okQ (am_ok1 am_mt yX3_become.cls yX3_become.name cX3_become 3 none) 1 am_t_X3_become_1 = true := by decide +kernel
theorem am_q_X3_become_2 : am_okQ (am_ok1 am_mt yX3_become.cls yX3_become.name cX3_become 3 none) 2 am_t_X3_become_2 = true := by decide +kernel
theorem am_q_X3_become_3 : am_okQ (am_ok1 am_mt yX3_become.cls yX3_become.name cX3_become 3 none) 3 am_t_X3_become_3 = true := by decide +kernel
theorem am_q_X3_become_4 : am_okQ (am_ok1 am_mt yX3_become.cls yX3_become.name cX3_become 3 none) 4 am_t_X3_become_4 = true := by decide +kernel
theorem am_q_X3_become_5 : am_okQ (am_ok1 am_mt yX3_become.cls yX3_become.name cX3_become 3 none) 5 am_t_X3_become_5 = true := by decide +kernel
theorem am_q_X3_become_6 : am_okQ (am_ok1 am_mt yX3_become.cls yX3_become.name cX3_become 3 none) 6 am_t_X3_become_6 = true := by decide +kernel
theorem am_q_X3_become_7 : am_okQ (am_ok1 am_mt yX3_become.cls yX3_become.name cX3_become 3 none) 7 am_t_X3_become_7 = true := by decide +kernel
theorem am_q_X3_become : am_okT (am_ok1 am_mt yX3_become.cls yX3_become.name cX3_become 3 none) 0 am_t_X3_become = true := am_okT_c am_q_X3_become_0 (am_okT_c am_q_X3_become_1 (am_okT_c am_q_X3_become_2 (am_okT_c am_q_X3_become_3 (am_okT_c am_q_X3_become_4 (am_okT_c am_q_X3_become_5 (am_okT_c am_q_X3_become_6 (am_okT_c am_q_X3_become_7 (rfl))))))))
def am_m_X3_become : am_M := (yX3_become, cX3_become, 3, none, 1, 488, 83, 486, 487, 1, am_t_X3_become)
theorem am_k_X3_become : am_okM am_mt am_m_X3_become := ⟨by decide +kernel, am_q_X3_become⟩
def am_t_X3_hasMember_0 : List (Option am_I) := [some (.iload_n 1, 1, 0, 1, 0, 0, 0, 0, []), some (.ifCond .lt 15, 4, 16, 0, 0, 0, 0, 0, []), none, none, some (.iload_n 1, 5, 0, 1, 0, 0, 0, 0, []), some (.aload_n 0, 6, 0, 0, 0, 0, 0, 0, []), some (.getfield 35, 9, 0, 3, 3, 136, 0, 0, []), none, none, some (.if_icmp .ge 7, 12, 16, 0, 0, 0, 0, 0, []), none, none, some (.iconst 1, 13, 0, 0, 0, 0, 1, 0, []), some (.goto 4, 16, 17, 0, 0, 0, 0, 0, []), none, none]
def am_t_X3_hasMember_1 : List (Option am_I) := [some (.iconst 0, 17, 0, 0, 0, 0, 0, 0, []), some (.ireturn, 18, 1, 0, 0, 0, 0, 0, [])]
def am_t_X3_hasMember : am_T := [am_t_X3_hasMember_0, am_t_X3_hasMember_1]
theorem am_q_X3_hasMember_0 : am_okQ (am_ok1 am_mt yX3_hasMember.cls yX3_hasMember.name cX3_hasMember 2 (some .boolean)) 0 am_t_X3_hasMember_0 = true := by decide +kernel
theorem am_q_X3_hasMember_1 : am_okQ (am_ok1 am_mt yX3_hasMember.cls yX3_hasMember.name cX3_hasMember 2 (some .boolean)) 1 am_t_X3_hasMember_1 = true := by decide +kernel
theorem am_q_X3_hasMember : am_okT (am_ok1 am_mt yX3_hasMember.cls yX3_hasMember.name cX3_hasMember 2 (some .boolean)) 0 am_t_X3_hasMember = true := am_okT_c am_q_X3_hasMember_0 (am_okT_c am_q_X3_hasMember_1 (rfl))
def am_m_X3_hasMember : am_M := (yX3_hasMember, cX3_hasMember, 2, (some .boolean), 1, 555, 83, 553, 554, 1, am_t_X3_hasMember)
theorem am_k_X3_hasMember : am_okM am_mt am_m_X3_hasMember := ⟨by decide +kernel, am_q_X3_hasMember⟩
def am_t_X3_hasMotion_0 : List (Option am_I) := [some (.iload_n 1, 1, 0, 1, 0, 0, 0, 0, []), some (.ifCond .lt 15, 4, 16, 0, 0, 0, 0, 0, []), none, none, some (.iload_n 1, 5, 0, 1, 0, 0, 0, 0, []), some (.aload_n 0, 6, 0, 0, 0, 0, 0, 0, []), some (.getfield 32, 9, 0, 3, 2, 132, 0, 0, []), none, none, some (.if_icmp .ge 7, 12, 16, 0, 0, 0, 0, 0, []), none, none, some (.iconst 1, 13, 0, 0, 0, 0, 1, 0, []), some (.goto 4, 16, 17, 0, 0, 0, 0, 0, []), none, none]
def am_t_X3_hasMotion_1 : List (Option am_I) := [some (.iconst 0, 17, 0, 0, 0, 0, 0, 0, []), some (.ireturn, 18, 1, 0, 0, 0, 0, 0, [])]
def am_t_X3_hasMotion : am_T := [am_t_X3_hasMotion_0, am_t_X3_hasMotion_1]
theorem am_q_X3_hasMotion_0 : am_okQ (am_ok1 am_mt yX3_hasMotion.cls yX3_hasMotion.name cX3_hasMotion 2 (some .boolean)) 0 am_t_X3_hasMotion_0 = true := by decide +kernel
theorem am_q_X3_hasMotion_1 : am_okQ (am_ok1 am_mt yX3_hasMotion.cls yX3_hasMotion.name cX3_hasMotion 2 (some .boolean)) 1 am_t_X3_hasMotion_1 = true := by decide +kernel
theorem am_q_X3_hasMotion : am_okT (am_ok1 am_mt yX3_hasMotion.cls yX3_hasMotion.name cX3_hasMotion 2 (some .boolean)) 0 am_t_X3_hasMotion = true := am_okT_c am_q_X3_hasMotion_0 (am_okT_c am_q_X3_hasMotion_1 (rfl))
def am_m_X3_hasMotion : am_M := (yX3_hasMotion, cX3_hasMotion, 2, (some .boolean), 1, 571, 83, 569, 570, 1, am_t_X3_hasMotion)
theorem am_k_X3_hasMotion : am_okM am_mt am_m_X3_hasMotion := ⟨by decide +kernel, am_q_X3_hasMotion⟩
def am_t_X3_isSet_0 : List (Option am_I) := [some (.iload_n 1, 1, 0, 1, 0, 0, 0, 0, []), some (.ifCond .lt 17, 4, 18, 0, 0, 0, 0, 0, []), none, none, some (.iload_n 1, 5, 0, 1, 0, 0, 0, 0, []), some (.iconst 1, 6, 0, 0, 0, 0, 1, 0, []), some (.aload_n 0, 7, 0, 0, 0, 0, 0, 0, []), some (.getfield 35, 10, 0, 3, 3, 136, 0, 0, []), none, none, some (.ishl, 11, 0, 0, 0, 0, 0, 0, []), some (.if_icmp .ge 7, 14, 18, 0, 0, 0, 0, 0, []), none, none, some (.iconst 1, 15, 0, 0, 0, 0, 1, 0, []), some (.goto 4, 18, 19, 0, 0, 0, 0, 0, [])]
def am_t_X3_isSet_1 : List (Option am_I) := [none, none, some (.iconst 0, 19, 0, 0, 0, 0, 0, 0, []), some (.ireturn, 20, 1, 0, 0, 0, 0, 0, [])]
def am_t_X3_isSet : am_T := [am_t_X3_isSet_0, am_t_X3_isSet_1]
theorem am_q_X3_isSet_0 : am_okQ (am_ok1 am_mt yX3_isSet.cls yX3_isSet.name cX3_isSet 2 (some .boolean)) 0 am_t_X3_isSet_0 = true := by decide +kernel
theorem am_q_X3_isSet_1 : am_okQ (am_ok1 am_mt yX3_isSet.cls yX3_isSet.name cX3_isSet 2 (some .boolean)) 1 am_t_X3_isSet_1 = true := by decide +kernel
theorem am_q_X3_isSet : am_okT (am_ok1 am_mt yX3_isSet.cls yX3_isSet.name cX3_isSet 2 (some .boolean)) 0 am_t_X3_isSet = true := am_okT_c am_q_X3_isSet_0 (am_okT_c am_q_X3_isSet_1 (rfl))
def am_m_X3_isSet : am_M := (yX3_isSet, cX3_isSet, 2, (some .boolean), 1, 505, 83, 503, 504, 1, am_t_X3_isSet)
theorem am_k_X3_isSet : am_okM am_mt am_m_X3_isSet := ⟨by decide +kernel, am_q_X3_isSet⟩
def am_t_X3_addMotion_0 : List (Option am_I) := [some (.aload_n 0, 1, 0, 0, 0, 0, 0, 0, []), some (.getfield 32, 4, 0, 3, 2, 132, 0, 0, []), none, none, some (.iconst 4, 5, 0, 0, 0, 0, 4, 0, []), some (.if_icmp .ge 23, 8, 28, 0, 0, 0, 0, 0, []), none, none, some (.aload_n 0, 9, 0, 0, 0, 0, 0, 0, []), some (.getfield 9, 12, 0, 3, 6, 147, 0, 0, []), none, none, some (.aload_n 0, 13, 0, 0, 0, 0, 0, 0, []), some (.getfield 32, 16, 0, 3, 2, 132, 0, 0, []), none, none]
def am_t_X3_addMotion_1 : List (Option am_I) := [some (.iload_n 1, 17, 0, 1, 0, 0, 0, 0, []), some (.iastore, 18, 0, 0, 0, 0, 0, 0, []), some (.aload_n 0, 19, 0, 0, 0, 0, 0, 0, []), some (.dup, 20, 0, 0, 0, 0, 0, 0, []), some (.getfield 32, 23, 0, 3, 2, 132, 0, 0, []), none, none, some (.iconst 1, 24, 0, 0, 0, 0, 1, 0, []), some (.iadd, 25, 0, 0, 0, 0, 0, 0, []), some (.putfield 32, 28, 0, 3, 2, 132, 0, 0, []), none, none, some (.return_, 29, 0, 0, 0, 0, 0, 0, [])]
def am_t_X3_addMotion : am_T := [am_t_X3_addMotion_0, am_t_X3_addMotion_1]
theorem am_q_X3_addMotion_0 : am_okQ (am_ok1 am_mt yX3_addMotion.cls yX3_addMotion.name cX3_addMotion 2 none) 0 am_t_X3_addMotion_0 = true := by decide +kernel
theorem am_q_X3_addMotion_1 : am_okQ (am_ok1 am_mt yX3_addMotion.cls yX3_addMotion.name cX3_addMotion 2 none) 1 am_t_X3_addMotion_1 = true := by decide +kernel
theorem am_q_X3_addMotion : am_okT (am_ok1 am_mt yX3_addMotion.cls yX3_addMotion.name cX3_addMotion 2 none) 0 am_t_X3_addMotion = true := am_okT_c am_q_X3_addMotion_0 (am_okT_c am_q_X3_addMotion_1 (rfl))
def am_m_X3_addMotion : am_M := (yX3_addMotion, cX3_addMotion, 2, none, 1, 464, 83, 462, 463, 1, am_t_X3_addMotion)
theorem am_k_X3_addMotion : am_okM am_mt am_m_X3_addMotion := ⟨by decide +kernel, am_q_X3_addMotion⟩
def am_t_X3_addMember_0 : List (Option am_I) := [some (.aload_n 0, 1, 0, 0, 0, 0, 0, 0, []), some (.getfield 35, 4, 0, 3, 3, 136, 0, 0, []), none, none, some (.iconst 4, 5, 0, 0, 0, 0, 4, 0, []), some (.if_icmp .ge 43, 8, 48, 0, 0, 0, 0, 0, []), none, none, some (.aload_n 0, 9, 0, 0, 0, 0, 0, 0, []), some (.getfield 15, 12, 0, 3, 7, 151, 0, 0, []), none, none, some (.aload_n 0, 13, 0, 0, 0, 0, 0, 0, []), some (.getfield 35, 16, 0, 3, 3, 136, 0, 0, []), none, none]
def am_t_X3_addMember_1 : List (Option am_I) := [some (.iload_n 1, 17, 0, 1, 0, 0, 0, 0, []), some (.iastore, 18, 0, 0, 0, 0, 0, 0, []), some (.aload_n 0, 19, 0, 0, 0, 0, 0, 0, []), some (.getfield 18, 22, 0, 3, 8, 155, 0, 0, []), none, none, some (.aload_n 0, 23, 0, 0, 0, 0, 0, 0, []), some (.getfield 35, 26, 0, 3, 3, 136, 0, 0, []), none, none, some (.iload_n 2, 27, 0, 2, 0, 0, 0, 0, []), some (.iastore, 28, 0, 0, 0, 0, 0, 0, []), some (.aload_n 0, 29, 0, 0, 0, 0, 0, 0, []), some (.getfield 21, 32, 0, 3, 9, 162, 0, 0, []), none, none]
def am_t_X3_addMember_2 : List (Option am_I) := [some (.aload_n 0, 33, 0, 0, 0, 0, 0, 0, []), some (.getfield 35, 36, 0, 3, 3, 136, 0, 0, []), none, none, some (.iload_n 3, 37, 0, 3, 0, 0, 0, 0, []), some (.iastore, 38, 0, 0, 0, 0, 0, 0, []), some (.aload_n 0, 39, 0, 0, 0, 0, 0, 0, []), some (.dup, 40, 0, 0, 0, 0, 0, 0, []), some (.getfield 35, 43, 0, 3, 3, 136, 0, 0, []), none, none, some (.iconst 1, 44, 0, 0, 0, 0, 1, 0, []), some (.iadd, 45, 0, 0, 0, 0, 0, 0, []), some (.putfield 35, 48, 0, 3, 3, 136, 0, 0, []), none, none]
def am_t_X3_addMember_3 : List (Option am_I) := [some (.return_, 49, 0, 0, 0, 0, 0, 0, [])]
def am_t_X3_addMember : am_T := [am_t_X3_addMember_0, am_t_X3_addMember_1, am_t_X3_addMember_2, am_t_X3_addMember_3]
theorem am_q_X3_addMember_0 : am_okQ (am_ok1 am_mt yX3_addMember.cls yX3_addMember.name cX3_addMember 4 none) 0 am_t_X3_addMember_0 = true := by decide +kernel
theorem am_q_X3_addMember_1 : am_okQ (am_ok1 am_mt yX3_addMember.cls yX3_addMember.name cX3_addMember 4 none) 1 am_t_X3_addMember_1 = true := by decide +kernel
theorem am_q_X3_addMember_2 : am_okQ (am_ok1 am_mt yX3_addMember.cls yX3_addMember.name cX3_addMember 4 none) 2 am_t_X3_addMember_2 = true := by decide +kernel
theorem am_q_X3_addMember_3 : am_okQ (am_ok1 am_mt yX3_addMember.cls yX3_addMember.name cX3_addMember 4 none) 3 am_t_X3_addMember_3 = true := by decide +kernel
theorem am_q_X3_addMember : am_okT (am_ok1 am_mt yX3_addMember.cls yX3_addMember.name cX3_addMember 4 none) 0 am_t_X3_addMember = true := am_okT_c am_q_X3_addMember_0 (am_okT_c am_q_X3_addMember_1 (am_okT_c am_q_X3_addMember_2 (am_okT_c am_q_X3_addMember_3 (rfl))))
def am_m_X3_addMember : am_M := (yX3_addMember, cX3_addMember, 4, none, 1, 479, 83, 477, 478, 3, am_t_X3_addMember)
theorem am_k_X3_addMember : am_okM am_mt am_m_X3_addMember := ⟨by decide +kernel, am_q_X3_addMember⟩
def am_t_X3_costOf_0 : List (Option am_I) := [some (.aload_n 0, 1, 0, 0, 0, 0, 0, 0, []), some (.getfield 15, 4, 0, 3, 7, 151, 0, 0, []), none, none, some (.iload_n 1, 5, 0, 1, 0, 0, 0, 0, []), some (.iaload, 6, 0, 0, 0, 0, 0, 0, []), some (.tableswitch 38 1 3 #[26, 31, 26], 32, 44, 0, 0, 0, 0, 0, [(1, 32), (2, 37), (3, 32)]), none, none, none, none, none, none, none, none, none]
def am_t_X3_costOf_1 : List (Option am_I) := [none, none, none, none, none, none, none, none, none, none, none, none, none, none, none, none]
def am_t_X3_costOf_2 : List (Option am_I) := [some (.aload_n 0, 33, 0, 0, 0, 0, 0, 0, []), some (.getfield 28, 36, 0, 3, 1, 128, 0, 0, []), none, none, some (.ireturn, 37, 0, 0, 0, 0, 0, 0, []), some (.aload_n 0, 38, 0, 0, 0, 0, 0, 0, []), some (.getfield 28, 41, 0, 3, 1, 128, 0, 0, []), none, none, some (.iconst 1, 42, 0, 0, 0, 0, 1, 0, []), some (.iadd, 43, 0, 0, 0, 0, 0, 0, []), some (.ireturn, 44, 0, 0, 0, 0, 0, 0, []), some (.iconst 0, 45, 0, 0, 0, 0, 0, 0, []), some (.ireturn, 46, 0, 0, 0, 0, 0, 0, [])]
def am_t_X3_costOf : am_T := [am_t_X3_costOf_0, am_t_X3_costOf_1, am_t_X3_costOf_2]
theorem am_q_X3_costOf_0 : am_okQ (am_ok1 am_mt yX3_costOf.cls yX3_costOf.name cX3_costOf 2 (some .int)) 0 am_t_X3_costOf_0 = true := by decide +kernel
theorem am_q_X3_costOf_1 : am_okQ (am_ok1 am_mt yX3_costOf.cls yX3_costOf.name cX3_costOf 2 (some .int)) 1 am_t_X3_costOf_1 = true := by decide +kernel
theorem am_q_X3_costOf_2 : am_okQ (am_ok1 am_mt yX3_costOf.cls yX3_costOf.name cX3_costOf 2 (some .int)) 2 am_t_X3_costOf_2 = true := by decide +kernel
theorem am_q_X3_costOf : am_okT (am_ok1 am_mt yX3_costOf.cls yX3_costOf.name cX3_costOf 2 (some .int)) 0 am_t_X3_costOf = true := am_okT_c am_q_X3_costOf_0 (am_okT_c am_q_X3_costOf_1 (am_okT_c am_q_X3_costOf_2 (rfl)))
def am_m_X3_costOf : am_M := (yX3_costOf, cX3_costOf, 2, (some .int), 1, 513, 83, 511, 512, 1, am_t_X3_costOf)
theorem am_k_X3_costOf : am_okM am_mt am_m_X3_costOf := ⟨by decide +kernel, am_q_X3_costOf⟩
def am_t_X3_ableSet_0 : List (Option am_I) := [some (.iconst 0, 1, 0, 0, 0, 0, 0, 0, []), some (.istore_n 1, 2, 0, 1, 0, 0, 0, 0, []), some (.iconst 0, 3, 0, 0, 0, 0, 0, 0, []), some (.istore_n 2, 4, 0, 2, 0, 0, 0, 0, []), some (.iload_n 2, 5, 0, 2, 0, 0, 0, 0, []), some (.aload_n 0, 6, 0, 0, 0, 0, 0, 0, []), some (.getfield 35, 9, 0, 3, 3, 136, 0, 0, []), none, none, some (.if_icmp .ge 29, 12, 38, 0, 0, 0, 0, 0, []), none, none, some (.aload_n 0, 13, 0, 0, 0, 0, 0, 0, []), some (.getfield 18, 16, 0, 3, 8, 155, 0, 0, []), none, none]
def am_t_X3_ableSet_1 : List (Option am_I) := [some (.iload_n 2, 17, 0, 2, 0, 0, 0, 0, []), some (.iaload, 18, 0, 0, 0, 0, 0, 0, []), some (.aload_n 0, 19, 0, 0, 0, 0, 0, 0, []), some (.iload_n 2, 20, 0, 2, 0, 0, 0, 0, []), some (.invokevirtual 44, 23, 3, 44, 1, 510, 0, 0, []), none, none, some (.if_icmp .lt 9, 26, 32, 0, 0, 0, 0, 0, []), none, none, some (.iload_n 1, 27, 0, 1, 0, 0, 0, 0, []), some (.iconst 1, 28, 0, 0, 0, 0, 1, 0, []), some (.iload_n 2, 29, 0, 2, 0, 0, 0, 0, []), some (.ishl, 30, 0, 0, 0, 0, 0, 0, []), some (.ior, 31, 0, 0, 0, 0, 0, 0, []), some (.istore_n 1, 32, 0, 1, 0, 0, 0, 0, [])]
def am_t_X3_ableSet_2 : List (Option am_I) := [some (.iinc 2 1, 35, 0, 2, 0, 0, 1, 0, []), none, none, some (.goto (-31), 38, 4, 0, 0, 0, 0, 0, []), none, none, some (.iload_n 1, 39, 0, 1, 0, 0, 0, 0, []), some (.ireturn, 40, 0, 0, 0, 0, 0, 0, [])]
def am_t_X3_ableSet : am_T := [am_t_X3_ableSet_0, am_t_X3_ableSet_1, am_t_X3_ableSet_2]
theorem am_q_X3_ableSet_0 : am_okQ (am_ok1 am_mt yX3_ableSet.cls yX3_ableSet.name cX3_ableSet 3 (some .int)) 0 am_t_X3_ableSet_0 = true := by decide +kernel
theorem am_q_X3_ableSet_1 : am_okQ (am_ok1 am_mt yX3_ableSet.cls yX3_ableSet.name cX3_ableSet 3 (some .int)) 1 am_t_X3_ableSet_1 = true := by decide +kernel
theorem am_q_X3_ableSet_2 : am_okQ (am_ok1 am_mt yX3_ableSet.cls yX3_ableSet.name cX3_ableSet 3 (some .int)) 2 am_t_X3_ableSet_2 = true := by decide +kernel
theorem am_q_X3_ableSet : am_okT (am_ok1 am_mt yX3_ableSet.cls yX3_ableSet.name cX3_ableSet 3 (some .int)) 0 am_t_X3_ableSet = true := am_okT_c am_q_X3_ableSet_0 (am_okT_c am_q_X3_ableSet_1 (am_okT_c am_q_X3_ableSet_2 (rfl)))
def am_m_X3_ableSet : am_M := (yX3_ableSet, cX3_ableSet, 3, (some .int), 1, 509, 83, 507, 508, 0, am_t_X3_ableSet)
theorem am_k_X3_ableSet : am_okM am_mt am_m_X3_ableSet := ⟨by decide +kernel, am_q_X3_ableSet⟩
def am_t_X3_weighs_0 : List (Option am_I) := [some (.aload_n 0, 1, 0, 0, 0, 0, 0, 0, []), some (.getfield 15, 4, 0, 3, 7, 151, 0, 0, []), none, none, some (.iload_n 1, 5, 0, 1, 0, 0, 0, 0, []), some (.iaload, 6, 0, 0, 0, 0, 0, 0, []), some (.tableswitch 54 1 4 #[30, 40, 30, 52], 36, 60, 0, 0, 0, 0, 0, [(1, 36), (2, 46), (3, 36), (4, 58)]), none, none, none, none, none, none, none, none, none]
def am_t_X3_weighs_1 : List (Option am_I) := [none, none, none, none, none, none, none, none, none, none, none, none, none, none, none, none]
def am_t_X3_weighs_2 : List (Option am_I) := [none, none, none, none, some (.bipush 20, 38, 0, 0, 0, 0, 20, 0, []), none, some (.aload_n 0, 39, 0, 0, 0, 0, 0, 0, []), some (.getfield 18, 42, 0, 3, 8, 155, 0, 0, []), none, none, some (.iload_n 1, 43, 0, 1, 0, 0, 0, 0, []), some (.iaload, 44, 0, 0, 0, 0, 0, 0, []), some (.isub, 45, 0, 0, 0, 0, 0, 0, []), some (.ireturn, 46, 0, 0, 0, 0, 0, 0, []), some (.iconst 2, 47, 0, 0, 0, 0, 2, 0, []), some (.bipush 20, 49, 0, 0, 0, 0, 20, 0, [])]
def am_t_X3_weighs_3 : List (Option am_I) := [none, some (.aload_n 0, 50, 0, 0, 0, 0, 0, 0, []), some (.getfield 18, 53, 0, 3, 8, 155, 0, 0, []), none, none, some (.iload_n 1, 54, 0, 1, 0, 0, 0, 0, []), some (.iaload, 55, 0, 0, 0, 0, 0, 0, []), some (.isub, 56, 0, 0, 0, 0, 0, 0, []), some (.imul, 57, 0, 0, 0, 0, 0, 0, []), some (.ireturn, 58, 0, 0, 0, 0, 0, 0, []), some (.iconst 5, 59, 0, 0, 0, 0, 5, 0, []), some (.ireturn, 60, 0, 0, 0, 0, 0, 0, []), some (.iconst 5, 61, 0, 0, 0, 0, 5, 0, []), some (.aload_n 0, 62, 0, 0, 0, 0, 0, 0, []), some (.getfield 35, 65, 0, 3, 3, 136, 0, 0, []), none]
def am_t_X3_weighs_4 : List (Option am_I) := [none, some (.iadd, 66, 0, 0, 0, 0, 0, 0, []), some (.iload_n 2, 67, 0, 2, 0, 0, 0, 0, []), some (.invokestatic 48, 70, 0, 227, 1, 537, 0, 0, []), none, none, some (.isub, 71, 0, 0, 0, 0, 0, 0, []), some (.ireturn, 72, 0, 0, 0, 0, 0, 0, [])]
def am_t_X3_weighs : am_T := [am_t_X3_weighs_0, am_t_X3_weighs_1, am_t_X3_weighs_2, am_t_X3_weighs_3, am_t_X3_weighs_4]
theorem am_q_X3_weighs_0 : am_okQ (am_ok1 am_mt yX3_weighs.cls yX3_weighs.name cX3_weighs 3 (some .int)) 0 am_t_X3_weighs_0 = true := by decide +kernel
theorem am_q_X3_weighs_1 : am_okQ (am_ok1 am_mt yX3_weighs.cls yX3_weighs.name cX3_weighs 3 (some .int)) 1 am_t_X3_weighs_1 = true := by decide +kernel
theorem am_q_X3_weighs_2 : am_okQ (am_ok1 am_mt yX3_weighs.cls yX3_weighs.name cX3_weighs 3 (some .int)) 2 am_t_X3_weighs_2 = true := by decide +kernel
theorem am_q_X3_weighs_3 : am_okQ (am_ok1 am_mt yX3_weighs.cls yX3_weighs.name cX3_weighs 3 (some .int)) 3 am_t_X3_weighs_3 = true := by decide +kernel
theorem am_q_X3_weighs_4 : am_okQ (am_ok1 am_mt yX3_weighs.cls yX3_weighs.name cX3_weighs 3 (some .int)) 4 am_t_X3_weighs_4 = true := by decide +kernel
theorem am_q_X3_weighs : am_okT (am_ok1 am_mt yX3_weighs.cls yX3_weighs.name cX3_weighs 3 (some .int)) 0 am_t_X3_weighs = true := am_okT_c am_q_X3_weighs_0 (am_okT_c am_q_X3_weighs_1 (am_okT_c am_q_X3_weighs_2 (am_okT_c am_q_X3_weighs_3 (am_okT_c am_q_X3_weighs_4 (rfl)))))
def am_m_X3_weighs : am_M := (yX3_weighs, cX3_weighs, 3, (some .int), 1, 536, 83, 534, 535, 2, am_t_X3_weighs)
theorem am_k_X3_weighs : am_okM am_mt am_m_X3_weighs := ⟨by decide +kernel, am_q_X3_weighs⟩
def am_ms1 : List am_M := [am_m_X2_digit, am_m_X2_isOrder, am_m_X2_carriedInOrder, am_m_X2_fewestLozenges, am_m_X2_give, am_m_X2_breathLater, am_m_X2_carriedLater, am_m_X2_carriedInColds, am_m_X2_catchColds, am_m_X2_sessions, am_m_X2_breathOfAll, am_m_X3_init, am_m_X3_clear, am_m_X3_become, am_m_X3_hasMember, am_m_X3_hasMotion, am_m_X3_isSet, am_m_X3_addMotion, am_m_X3_addMember, am_m_X3_costOf, am_m_X3_ableSet, am_m_X3_weighs]
theorem am_ms1_ok : ∀ M ∈ am_ms1, am_okM am_mt M := List.forall_mem_cons.mpr ⟨am_k_X2_digit, List.forall_mem_cons.mpr ⟨am_k_X2_isOrder, List.forall_mem_cons.mpr ⟨am_k_X2_carriedInOrder, List.forall_mem_cons.mpr ⟨am_k_X2_fewestLozenges, List.forall_mem_cons.mpr ⟨am_k_X2_give, List.forall_mem_cons.mpr ⟨am_k_X2_breathLater, List.forall_mem_cons.mpr ⟨am_k_X2_carriedLater, List.forall_mem_cons.mpr ⟨am_k_X2_carriedInColds, List.forall_mem_cons.mpr ⟨am_k_X2_catchColds, List.forall_mem_cons.mpr ⟨am_k_X2_sessions, List.forall_mem_cons.mpr ⟨am_k_X2_breathOfAll, List.forall_mem_cons.mpr ⟨am_k_X3_init, List.forall_mem_cons.mpr ⟨am_k_X3_clear, List.forall_mem_cons.mpr ⟨am_k_X3_become, List.forall_mem_cons.mpr ⟨am_k_X3_hasMember, List.forall_mem_cons.mpr ⟨am_k_X3_hasMotion, List.forall_mem_cons.mpr ⟨am_k_X3_isSet, List.forall_mem_cons.mpr ⟨am_k_X3_addMotion, List.forall_mem_cons.mpr ⟨am_k_X3_addMember, List.forall_mem_cons.mpr ⟨am_k_X3_costOf, List.forall_mem_cons.mpr ⟨am_k_X3_ableSet, List.forall_mem_cons.mpr ⟨am_k_X3_weighs, fun _ h => absurd h List.not_mem_nil⟩⟩⟩⟩⟩⟩⟩⟩⟩⟩⟩⟩⟩⟩⟩⟩⟩⟩⟩⟩⟩⟩
end
section
def am_t_X3_weighsSet_0 : List (Option am_I) := [some (.iconst 0, 1, 0, 0, 0, 0, 0, 0, []), some (.istore_n 3, 2, 0, 3, 0, 0, 0, 0, []), some (.iconst 0, 3, 0, 0, 0, 0, 0, 0, []), some (.istore 4, 5, 0, 4, 0, 0, 0, 0, []), none, some (.iload 4, 7, 0, 4, 0, 0, 0, 0, []), none, some (.aload_n 0, 8, 0, 0, 0, 0, 0, 0, []), some (.getfield 35, 11, 0, 3, 3, 136, 0, 0, []), none, none, some (.if_icmp .ge 28, 14, 39, 0, 0, 0, 0, 0, []), none, none, some (.iload_n 1, 15, 0, 1, 0, 0, 0, 0, []), some (.iload 4, 17, 0, 4, 0, 0, 0, 0, [])]
def am_t_X3_weighsSet_1 : List (Option am_I) := [none, some (.ishr, 18, 0, 0, 0, 0, 0, 0, []), some (.iconst 1, 19, 0, 0, 0, 0, 1, 0, []), some (.iand, 20, 0, 0, 0, 0, 0, 0, []), some (.ifCond .eq 13, 23, 33, 0, 0, 0, 0, 0, []), none, none, some (.iload_n 3, 24, 0, 3, 0, 0, 0, 0, []), some (.aload_n 0, 25, 0, 0, 0, 0, 0, 0, []), some (.iload 4, 27, 0, 4, 0, 0, 0, 0, []), none, some (.iload_n 2, 28, 0, 2, 0, 0, 0, 0, []), some (.invokevirtual 53, 31, 3, 46, 2, 533, 0, 0, []), none, none, some (.iadd, 32, 0, 0, 0, 0, 0, 0, [])]
def am_t_X3_weighsSet_2 : List (Option am_I) := [some (.istore_n 3, 33, 0, 3, 0, 0, 0, 0, []), some (.iinc 4 1, 36, 0, 4, 0, 0, 1, 0, []), none, none, some (.goto (-31), 39, 5, 0, 0, 0, 0, 0, []), none, none, some (.iload_n 3, 40, 0, 3, 0, 0, 0, 0, []), some (.ireturn, 41, 0, 0, 0, 0, 0, 0, [])]
def am_t_X3_weighsSet : am_T := [am_t_X3_weighsSet_0, am_t_X3_weighsSet_1, am_t_X3_weighsSet_2]
theorem am_q_X3_weighsSet_0 : am_okQ (am_ok1 am_mt yX3_weighsSet.cls yX3_weighsSet.name cX3_weighsSet 5 (some .int)) 0 am_t_X3_weighsSet_0 = true := by decide +kernel
theorem am_q_X3_weighsSet_1 : am_okQ (am_ok1 am_mt yX3_weighsSet.cls yX3_weighsSet.name cX3_weighsSet 5 (some .int)) 1 am_t_X3_weighsSet_1 = true := by decide +kernel
theorem am_q_X3_weighsSet_2 : am_okQ (am_ok1 am_mt yX3_weighsSet.cls yX3_weighsSet.name cX3_weighsSet 5 (some .int)) 2 am_t_X3_weighsSet_2 = true := by decide +kernel
theorem am_q_X3_weighsSet : am_okT (am_ok1 am_mt yX3_weighsSet.cls yX3_weighsSet.name cX3_weighsSet 5 (some .int)) 0 am_t_X3_weighsSet = true := am_okT_c am_q_X3_weighsSet_0 (am_okT_c am_q_X3_weighsSet_1 (am_okT_c am_q_X3_weighsSet_2 (rfl)))
def am_m_X3_weighsSet : am_M := (yX3_weighsSet, cX3_weighsSet, 5, (some .int), 1, 532, 83, 530, 531, 2, am_t_X3_weighsSet)
theorem am_k_X3_weighsSet : am_okM am_mt am_m_X3_weighsSet := ⟨by decide +kernel, am_q_X3_weighsSet⟩
def am_t_X3_needToday_0 : List (Option am_I) := [some (.aload_n 0, 1, 0, 0, 0, 0, 0, 0, []), some (.getfield 32, 4, 0, 3, 2, 132, 0, 0, []), none, none, some (.ifCond .le 20, 7, 24, 0, 0, 0, 0, 0, []), none, none, some (.aload_n 0, 8, 0, 0, 0, 0, 0, 0, []), some (.getfield 9, 11, 0, 3, 6, 147, 0, 0, []), none, none, some (.aload_n 0, 12, 0, 0, 0, 0, 0, 0, []), some (.getfield 38, 15, 0, 3, 4, 140, 0, 0, []), none, none, some (.aload_n 0, 16, 0, 0, 0, 0, 0, 0, [])]
def am_t_X3_needToday_1 : List (Option am_I) := [some (.getfield 32, 19, 0, 3, 2, 132, 0, 0, []), none, none, some (.irem, 20, 0, 0, 0, 0, 0, 0, []), some (.iaload, 21, 0, 0, 0, 0, 0, 0, []), some (.goto 4, 24, 25, 0, 0, 0, 0, 0, []), none, none, some (.iconst 0, 25, 0, 0, 0, 0, 0, 0, []), some (.ireturn, 26, 0, 0, 0, 0, 0, 0, [])]
def am_t_X3_needToday : am_T := [am_t_X3_needToday_0, am_t_X3_needToday_1]
theorem am_q_X3_needToday_0 : am_okQ (am_ok1 am_mt yX3_needToday.cls yX3_needToday.name cX3_needToday 1 (some .int)) 0 am_t_X3_needToday_0 = true := by decide +kernel
theorem am_q_X3_needToday_1 : am_okQ (am_ok1 am_mt yX3_needToday.cls yX3_needToday.name cX3_needToday 1 (some .int)) 1 am_t_X3_needToday_1 = true := by decide +kernel
theorem am_q_X3_needToday : am_okT (am_ok1 am_mt yX3_needToday.cls yX3_needToday.name cX3_needToday 1 (some .int)) 0 am_t_X3_needToday = true := am_okT_c am_q_X3_needToday_0 (am_okT_c am_q_X3_needToday_1 (rfl))
def am_m_X3_needToday : am_M := (yX3_needToday, cX3_needToday, 1, (some .int), 1, 546, 83, 544, 545, 0, am_t_X3_needToday)
theorem am_k_X3_needToday : am_okM am_mt am_m_X3_needToday := ⟨by decide +kernel, am_q_X3_needToday⟩
def am_t_X3_isCarriedBy_0 : List (Option am_I) := [some (.aload_n 0, 1, 0, 0, 0, 0, 0, 0, []), some (.iload_n 1, 2, 0, 1, 0, 0, 0, 0, []), some (.iload_n 2, 3, 0, 2, 0, 0, 0, 0, []), some (.invokevirtual 57, 6, 3, 47, 2, 529, 0, 0, []), none, none, some (.aload_n 0, 7, 0, 0, 0, 0, 0, 0, []), some (.invokevirtual 60, 10, 3, 48, 0, 543, 0, 0, []), none, none, some (.if_icmp .lt 7, 13, 17, 0, 0, 0, 0, 0, []), none, none, some (.iconst 1, 14, 0, 0, 0, 0, 1, 0, []), some (.goto 4, 17, 18, 0, 0, 0, 0, 0, []), none]
def am_t_X3_isCarriedBy_1 : List (Option am_I) := [none, some (.iconst 0, 18, 0, 0, 0, 0, 0, 0, []), some (.ireturn, 19, 1, 0, 0, 0, 0, 0, [])]
def am_t_X3_isCarriedBy : am_T := [am_t_X3_isCarriedBy_0, am_t_X3_isCarriedBy_1]
theorem am_q_X3_isCarriedBy_0 : am_okQ (am_ok1 am_mt yX3_isCarriedBy.cls yX3_isCarriedBy.name cX3_isCarriedBy 3 (some .boolean)) 0 am_t_X3_isCarriedBy_0 = true := by decide +kernel
theorem am_q_X3_isCarriedBy_1 : am_okQ (am_ok1 am_mt yX3_isCarriedBy.cls yX3_isCarriedBy.name cX3_isCarriedBy 3 (some .boolean)) 1 am_t_X3_isCarriedBy_1 = true := by decide +kernel
theorem am_q_X3_isCarriedBy : am_okT (am_ok1 am_mt yX3_isCarriedBy.cls yX3_isCarriedBy.name cX3_isCarriedBy 3 (some .boolean)) 0 am_t_X3_isCarriedBy = true := am_okT_c am_q_X3_isCarriedBy_0 (am_okT_c am_q_X3_isCarriedBy_1 (rfl))
def am_m_X3_isCarriedBy : am_M := (yX3_isCarriedBy, cX3_isCarriedBy, 3, (some .boolean), 1, 528, 83, 526, 527, 2, am_t_X3_isCarriedBy)
theorem am_k_X3_isCarriedBy : am_okM am_mt am_m_X3_isCarriedBy := ⟨by decide +kernel, am_q_X3_isCarriedBy⟩
def am_t_X3_isCarriedByAll_0 : List (Option am_I) := [some (.aload_n 0, 1, 0, 0, 0, 0, 0, 0, []), some (.invokevirtual 64, 4, 3, 45, 0, 704, 0, 0, []), none, none, some (.istore_n 1, 5, 0, 1, 0, 0, 0, 0, []), some (.aload_n 0, 6, 0, 0, 0, 0, 0, 0, []), some (.iload_n 1, 7, 0, 1, 0, 0, 0, 0, []), some (.iload_n 1, 8, 0, 1, 0, 0, 0, 0, []), some (.invokevirtual 67, 11, 3, 49, 2, 525, 0, 0, []), none, none, some (.ireturn, 12, 1, 0, 0, 0, 0, 0, [])]
def am_t_X3_isCarriedByAll : am_T := [am_t_X3_isCarriedByAll_0]
theorem am_q_X3_isCarriedByAll_0 : am_okQ (am_ok1 am_mt yX3_isCarriedByAll.cls yX3_isCarriedByAll.name cX3_isCarriedByAll 2 (some .boolean)) 0 am_t_X3_isCarriedByAll_0 = true := by decide +kernel
theorem am_q_X3_isCarriedByAll : am_okT (am_ok1 am_mt yX3_isCarriedByAll.cls yX3_isCarriedByAll.name cX3_isCarriedByAll 2 (some .boolean)) 0 am_t_X3_isCarriedByAll = true := am_okT_c am_q_X3_isCarriedByAll_0 (rfl)
def am_m_X3_isCarriedByAll : am_M := (yX3_isCarriedByAll, cX3_isCarriedByAll, 2, (some .boolean), 1, 703, 83, 701, 702, 0, am_t_X3_isCarriedByAll)
theorem am_k_X3_isCarriedByAll : am_okM am_mt am_m_X3_isCarriedByAll := ⟨by decide +kernel, am_q_X3_isCarriedByAll⟩
def am_t_X3_passDay_0 : List (Option am_I) := [some (.aload_n 0, 1, 0, 0, 0, 0, 0, 0, []), some (.iload_n 1, 2, 0, 1, 0, 0, 0, 0, []), some (.iload_n 2, 3, 0, 2, 0, 0, 0, 0, []), some (.invokevirtual 67, 6, 3, 49, 2, 525, 0, 0, []), none, none, some (.ifCond .eq 7, 9, 13, 0, 0, 0, 0, 0, []), none, none, some (.iconst 1, 10, 0, 0, 0, 0, 1, 0, []), some (.goto 4, 13, 14, 0, 0, 0, 0, 0, []), none, none, some (.iconst 0, 14, 0, 0, 0, 0, 0, 0, []), some (.istore_n 3, 15, 0, 3, 0, 0, 0, 0, []), some (.iconst 0, 16, 0, 0, 0, 0, 0, 0, [])]
def am_t_X3_passDay_1 : List (Option am_I) := [some (.istore 4, 18, 0, 4, 0, 0, 0, 0, []), none, some (.iload 4, 20, 0, 4, 0, 0, 0, 0, []), none, some (.aload_n 0, 21, 0, 0, 0, 0, 0, 0, []), some (.getfield 35, 24, 0, 3, 3, 136, 0, 0, []), none, none, some (.if_icmp .ge 85, 27, 109, 0, 0, 0, 0, 0, []), none, none, some (.iload_n 1, 28, 0, 1, 0, 0, 0, 0, []), some (.iload 4, 30, 0, 4, 0, 0, 0, 0, []), none, some (.ishr, 31, 0, 0, 0, 0, 0, 0, []), some (.iconst 1, 32, 0, 0, 0, 0, 1, 0, [])]
def am_t_X3_passDay_2 : List (Option am_I) := [some (.iand, 33, 0, 0, 0, 0, 0, 0, []), some (.ifCond .eq 22, 36, 55, 0, 0, 0, 0, 0, []), none, none, some (.aload_n 0, 37, 0, 0, 0, 0, 0, 0, []), some (.getfield 18, 40, 0, 3, 8, 155, 0, 0, []), none, none, some (.iload 4, 42, 0, 4, 0, 0, 0, 0, []), none, some (.dup2, 43, 0, 0, 0, 0, 0, 0, []), some (.iaload, 44, 0, 0, 0, 0, 0, 0, []), some (.aload_n 0, 45, 0, 0, 0, 0, 0, 0, []), some (.iload 4, 47, 0, 4, 0, 0, 0, 0, []), none, some (.invokevirtual 44, 50, 3, 44, 1, 510, 0, 0, [])]
def am_t_X3_passDay_3 : List (Option am_I) := [none, none, some (.isub, 51, 0, 0, 0, 0, 0, 0, []), some (.iastore, 52, 0, 0, 0, 0, 0, 0, []), some (.goto 51, 55, 103, 0, 0, 0, 0, 0, []), none, none, some (.aload_n 0, 56, 0, 0, 0, 0, 0, 0, []), some (.getfield 15, 59, 0, 3, 7, 151, 0, 0, []), none, none, some (.iload 4, 61, 0, 4, 0, 0, 0, 0, []), none, some (.iaload, 62, 0, 0, 0, 0, 0, 0, []), some (.iconst 3, 63, 0, 0, 0, 0, 3, 0, []), some (.if_icmp .ne 13, 66, 76, 0, 0, 0, 0, 0, [])]
def am_t_X3_passDay_4 : List (Option am_I) := [none, none, some (.aload_n 0, 67, 0, 0, 0, 0, 0, 0, []), some (.getfield 38, 70, 0, 3, 4, 140, 0, 0, []), none, none, some (.iconst 2, 71, 0, 0, 0, 0, 2, 0, []), some (.irem, 72, 0, 0, 0, 0, 0, 0, []), some (.iconst 1, 73, 0, 0, 0, 0, 1, 0, []), some (.if_icmp .ne 30, 76, 103, 0, 0, 0, 0, 0, []), none, none, some (.aload_n 0, 77, 0, 0, 0, 0, 0, 0, []), some (.getfield 18, 80, 0, 3, 8, 155, 0, 0, []), none, none]
def am_t_X3_passDay_5 : List (Option am_I) := [some (.iload 4, 82, 0, 4, 0, 0, 0, 0, []), none, some (.bipush 20, 84, 0, 0, 0, 0, 20, 0, []), none, some (.aload_n 0, 85, 0, 0, 0, 0, 0, 0, []), some (.getfield 18, 88, 0, 3, 8, 155, 0, 0, []), none, none, some (.iload 4, 90, 0, 4, 0, 0, 0, 0, []), none, some (.iaload, 91, 0, 0, 0, 0, 0, 0, []), some (.aload_n 0, 92, 0, 0, 0, 0, 0, 0, []), some (.getfield 21, 95, 0, 3, 9, 162, 0, 0, []), none, none, some (.iload 4, 97, 0, 4, 0, 0, 0, 0, [])]
def am_t_X3_passDay_6 : List (Option am_I) := [none, some (.iaload, 98, 0, 0, 0, 0, 0, 0, []), some (.iadd, 99, 0, 0, 0, 0, 0, 0, []), some (.invokestatic 71, 102, 0, 229, 2, 547, 0, 0, []), none, none, some (.iastore, 103, 0, 0, 0, 0, 0, 0, []), some (.iinc 4 1, 106, 0, 4, 0, 0, 1, 0, []), none, none, some (.goto (-88), 109, 18, 0, 0, 0, 0, 0, []), none, none, some (.aload_n 0, 110, 0, 0, 0, 0, 0, 0, []), some (.dup, 111, 0, 0, 0, 0, 0, 0, []), some (.getfield 41, 114, 0, 3, 5, 144, 0, 0, [])]
def am_t_X3_passDay_7 : List (Option am_I) := [none, none, some (.iload_n 3, 115, 0, 3, 0, 0, 0, 0, []), some (.iadd, 116, 0, 0, 0, 0, 0, 0, []), some (.putfield 41, 119, 0, 3, 5, 144, 0, 0, []), none, none, some (.aload_n 0, 120, 0, 0, 0, 0, 0, 0, []), some (.dup, 121, 0, 0, 0, 0, 0, 0, []), some (.getfield 38, 124, 0, 3, 4, 140, 0, 0, []), none, none, some (.iconst 1, 125, 0, 0, 0, 0, 1, 0, []), some (.iadd, 126, 0, 0, 0, 0, 0, 0, []), some (.putfield 38, 129, 0, 3, 4, 140, 0, 0, []), none]
def am_t_X3_passDay_8 : List (Option am_I) := [none, some (.iload_n 3, 130, 0, 3, 0, 0, 0, 0, []), some (.ireturn, 131, 0, 0, 0, 0, 0, 0, [])]
def am_t_X3_passDay : am_T := [am_t_X3_passDay_0, am_t_X3_passDay_1, am_t_X3_passDay_2, am_t_X3_passDay_3, am_t_X3_passDay_4, am_t_X3_passDay_5, am_t_X3_passDay_6, am_t_X3_passDay_7, am_t_X3_passDay_8]
theorem am_q_X3_passDay_0 : am_okQ (am_ok1 am_mt yX3_passDay.cls yX3_passDay.name cX3_passDay 5 (some .int)) 0 am_t_X3_passDay_0 = true := by decide +kernel
theorem am_q_X3_passDay_1 : am_okQ (am_ok1 am_mt yX3_passDay.cls yX3_passDay.name cX3_passDay 5 (some .int)) 1 am_t_X3_passDay_1 = true := by decide +kernel
theorem am_q_X3_passDay_2 : am_okQ (am_ok1 am_mt yX3_passDay.cls yX3_passDay.name cX3_passDay 5 (some .int)) 2 am_t_X3_passDay_2 = true := by decide +kernel
theorem am_q_X3_passDay_3 : am_okQ (am_ok1 am_mt yX3_passDay.cls yX3_passDay.name cX3_passDay 5 (some .int)) 3 am_t_X3_passDay_3 = true := by decide +kernel
theorem am_q_X3_passDay_4 : am_okQ (am_ok1 am_mt yX3_passDay.cls yX3_passDay.name cX3_passDay 5 (some .int)) 4 am_t_X3_passDay_4 = true := by decide +kernel
theorem am_q_X3_passDay_5 : am_okQ (am_ok1 am_mt yX3_passDay.cls yX3_passDay.name cX3_passDay 5 (some .int)) 5 am_t_X3_passDay_5 = true := by decide +kernel
theorem am_q_X3_passDay_6 : am_okQ (am_ok1 am_mt yX3_passDay.cls yX3_passDay.name cX3_passDay 5 (some .int)) 6 am_t_X3_passDay_6 = true := by decide +kernel
theorem am_q_X3_passDay_7 : am_okQ (am_ok1 am_mt yX3_passDay.cls yX3_passDay.name cX3_passDay 5 (some .int)) 7 am_t_X3_passDay_7 = true := by decide +kernel
theorem am_q_X3_passDay_8 : am_okQ (am_ok1 am_mt yX3_passDay.cls yX3_passDay.name cX3_passDay 5 (some .int)) 8 am_t_X3_passDay_8 = true := by decide +kernel
theorem am_q_X3_passDay : am_okT (am_ok1 am_mt yX3_passDay.cls yX3_passDay.name cX3_passDay 5 (some .int)) 0 am_t_X3_passDay = true := am_okT_c am_q_X3_passDay_0 (am_okT_c am_q_X3_passDay_1 (am_okT_c am_q_X3_passDay_2 (am_okT_c am_q_X3_passDay_3 (am_okT_c am_q_X3_passDay_4 (am_okT_c am_q_X3_passDay_5 (am_okT_c am_q_X3_passDay_6 (am_okT_c am_q_X3_passDay_7 (am_okT_c am_q_X3_passDay_8 (rfl)))))))))
def am_m_X3_passDay : am_M := (yX3_passDay, cX3_passDay, 5, (some .int), 1, 524, 83, 522, 523, 2, am_t_X3_passDay)
theorem am_k_X3_passDay : am_okM am_mt am_m_X3_passDay := ⟨by decide +kernel, am_q_X3_passDay⟩
def am_t_X3_passDays_0 : List (Option am_I) := [some (.iconst 0, 1, 0, 0, 0, 0, 0, 0, []), some (.istore_n 2, 2, 0, 2, 0, 0, 0, 0, []), some (.iconst 0, 3, 0, 0, 0, 0, 0, 0, []), some (.istore_n 3, 4, 0, 3, 0, 0, 0, 0, []), some (.iload_n 3, 5, 0, 3, 0, 0, 0, 0, []), some (.iload_n 1, 6, 0, 1, 0, 0, 0, 0, []), some (.if_icmp .ge 26, 9, 32, 0, 0, 0, 0, 0, []), none, none, some (.aload_n 0, 10, 0, 0, 0, 0, 0, 0, []), some (.invokevirtual 64, 13, 3, 45, 0, 704, 0, 0, []), none, none, some (.istore 4, 15, 0, 4, 0, 0, 0, 0, []), none, some (.iload_n 2, 16, 0, 2, 0, 0, 0, 0, [])]
def am_t_X3_passDays_1 : List (Option am_I) := [some (.aload_n 0, 17, 0, 0, 0, 0, 0, 0, []), some (.iload 4, 19, 0, 4, 0, 0, 0, 0, []), none, some (.iload 4, 21, 0, 4, 0, 0, 0, 0, []), none, some (.invokevirtual 76, 24, 3, 51, 2, 717, 0, 0, []), none, none, some (.iadd, 25, 0, 0, 0, 0, 0, 0, []), some (.istore_n 2, 26, 0, 2, 0, 0, 0, 0, []), some (.iinc 3 1, 29, 0, 3, 0, 0, 1, 0, []), none, none, some (.goto (-25), 32, 4, 0, 0, 0, 0, 0, []), none, none]
def am_t_X3_passDays_2 : List (Option am_I) := [some (.iload_n 2, 33, 0, 2, 0, 0, 0, 0, []), some (.ireturn, 34, 0, 0, 0, 0, 0, 0, [])]
def am_t_X3_passDays : am_T := [am_t_X3_passDays_0, am_t_X3_passDays_1, am_t_X3_passDays_2]
theorem am_q_X3_passDays_0 : am_okQ (am_ok1 am_mt yX3_passDays.cls yX3_passDays.name cX3_passDays 5 (some .int)) 0 am_t_X3_passDays_0 = true := by decide +kernel
theorem am_q_X3_passDays_1 : am_okQ (am_ok1 am_mt yX3_passDays.cls yX3_passDays.name cX3_passDays 5 (some .int)) 1 am_t_X3_passDays_1 = true := by decide +kernel
theorem am_q_X3_passDays_2 : am_okQ (am_ok1 am_mt yX3_passDays.cls yX3_passDays.name cX3_passDays 5 (some .int)) 2 am_t_X3_passDays_2 = true := by decide +kernel
theorem am_q_X3_passDays : am_okT (am_ok1 am_mt yX3_passDays.cls yX3_passDays.name cX3_passDays 5 (some .int)) 0 am_t_X3_passDays = true := am_okT_c am_q_X3_passDays_0 (am_okT_c am_q_X3_passDays_1 (am_okT_c am_q_X3_passDays_2 (rfl)))
def am_m_X3_passDays : am_M := (yX3_passDays, cX3_passDays, 5, (some .int), 1, 716, 83, 714, 715, 1, am_t_X3_passDays)
theorem am_k_X3_passDays : am_okM am_mt am_m_X3_passDays := ⟨by decide +kernel, am_q_X3_passDays⟩
def am_t_X4_init_0 : List (Option am_I) := [some (.aload_n 0, 1, 0, 0, 0, 0, 0, 0, []), some (.invokespecial 3, 4, 2, 0, 0, 274, 0, 0, []), none, none, some (.aload_n 0, 5, 0, 0, 0, 0, 0, 0, []), some (.aload_n 1, 6, 0, 1, 0, 0, 0, 0, []), some (.putfield 9, 9, 2, 4, 0, 275, 0, 0, []), none, none, some (.aload_n 0, 10, 0, 0, 0, 0, 0, 0, []), some (.aload_n 2, 11, 0, 2, 0, 0, 0, 0, []), some (.putfield 15, 14, 2, 4, 1, 276, 0, 0, []), none, none, some (.aload_n 0, 15, 0, 0, 0, 0, 0, 0, []), some (.aload_n 3, 16, 0, 3, 0, 0, 0, 0, [])]
def am_t_X4_init_1 : List (Option am_I) := [some (.putfield 18, 19, 2, 4, 2, 277, 0, 0, []), none, none, some (.return_, 20, 0, 0, 0, 0, 0, 0, [])]
def am_t_X4_init : am_T := [am_t_X4_init_0, am_t_X4_init_1]
theorem am_q_X4_init_0 : am_okQ (am_ok1 am_mt yX4_init.cls yX4_init.name cX4_init 4 none) 0 am_t_X4_init_0 = true := by decide +kernel
theorem am_q_X4_init_1 : am_okQ (am_ok1 am_mt yX4_init.cls yX4_init.name cX4_init 4 none) 1 am_t_X4_init_1 = true := by decide +kernel
theorem am_q_X4_init : am_okT (am_ok1 am_mt yX4_init.cls yX4_init.name cX4_init 4 none) 0 am_t_X4_init = true := am_okT_c am_q_X4_init_0 (am_okT_c am_q_X4_init_1 (rfl))
def am_m_X4_init : am_M := (yX4_init, cX4_init, 4, none, 2, 273, 88, 272, 0, 3, am_t_X4_init)
theorem am_k_X4_init : am_okM am_mt am_m_X4_init := ⟨by decide +kernel, am_q_X4_init⟩
def am_t_X4_breathsOf_0 : List (Option am_I) := [some (.iconst 0, 1, 0, 0, 0, 0, 0, 0, []), some (.istore 5, 3, 0, 5, 0, 0, 0, 0, []), none, some (.iconst 0, 4, 0, 0, 0, 0, 0, 0, []), some (.istore 6, 6, 0, 6, 0, 0, 0, 0, []), none, some (.iload 6, 8, 0, 6, 0, 0, 0, 0, []), none, some (.bipush 20, 10, 0, 0, 0, 0, 20, 0, []), none, some (.if_icmp .gt 47, 13, 57, 0, 0, 0, 0, 0, []), none, none, some (.aload_n 0, 14, 0, 0, 0, 0, 0, 0, []), some (.getfield 15, 17, 0, 4, 1, 276, 0, 0, []), none]
def am_t_X4_breathsOf_1 : List (Option am_I) := [none, some (.aload_n 0, 18, 0, 0, 0, 0, 0, 0, []), some (.getfield 9, 21, 0, 4, 0, 275, 0, 0, []), none, none, some (.invokevirtual 22, 24, 3, 38, 1, 734, 0, 0, []), none, none, some (.aload_n 0, 25, 0, 0, 0, 0, 0, 0, []), some (.getfield 15, 28, 0, 4, 1, 276, 0, 0, []), none, none, some (.getfield 28, 31, 0, 3, 8, 156, 0, 0, []), none, none, some (.iload_n 1, 32, 0, 1, 0, 0, 0, 0, [])]
def am_t_X4_breathsOf_2 : List (Option am_I) := [some (.iload 6, 34, 0, 6, 0, 0, 0, 0, []), none, some (.iastore, 35, 0, 0, 0, 0, 0, 0, []), some (.iload 5, 37, 0, 5, 0, 0, 0, 0, []), none, some (.aload_n 0, 38, 0, 0, 0, 0, 0, 0, []), some (.iload_n 2, 39, 0, 2, 0, 0, 0, 0, []), some (.iload_n 3, 40, 0, 3, 0, 0, 0, 0, []), some (.iload 4, 42, 0, 4, 0, 0, 0, 0, []), none, some (.invokevirtual 32, 45, 4, 57, 3, 735, 0, 0, []), none, none, some (.iload 6, 47, 0, 6, 0, 0, 0, 0, []), none, some (.ishl, 48, 0, 0, 0, 0, 0, 0, [])]
def am_t_X4_breathsOf_3 : List (Option am_I) := [some (.ior, 49, 0, 0, 0, 0, 0, 0, []), some (.istore 5, 51, 0, 5, 0, 0, 0, 0, []), none, some (.iinc 6 1, 54, 0, 6, 0, 0, 1, 0, []), none, none, some (.goto (-48), 57, 6, 0, 0, 0, 0, 0, []), none, none, some (.iload 5, 59, 0, 5, 0, 0, 0, 0, []), none, some (.ireturn, 60, 0, 0, 0, 0, 0, 0, [])]
def am_t_X4_breathsOf : am_T := [am_t_X4_breathsOf_0, am_t_X4_breathsOf_1, am_t_X4_breathsOf_2, am_t_X4_breathsOf_3]
theorem am_q_X4_breathsOf_0 : am_okQ (am_ok1 am_mt yX4_breathsOf.cls yX4_breathsOf.name cX4_breathsOf 7 (some .int)) 0 am_t_X4_breathsOf_0 = true := by decide +kernel
theorem am_q_X4_breathsOf_1 : am_okQ (am_ok1 am_mt yX4_breathsOf.cls yX4_breathsOf.name cX4_breathsOf 7 (some .int)) 1 am_t_X4_breathsOf_1 = true := by decide +kernel
theorem am_q_X4_breathsOf_2 : am_okQ (am_ok1 am_mt yX4_breathsOf.cls yX4_breathsOf.name cX4_breathsOf 7 (some .int)) 2 am_t_X4_breathsOf_2 = true := by decide +kernel
theorem am_q_X4_breathsOf_3 : am_okQ (am_ok1 am_mt yX4_breathsOf.cls yX4_breathsOf.name cX4_breathsOf 7 (some .int)) 3 am_t_X4_breathsOf_3 = true := by decide +kernel
theorem am_q_X4_breathsOf : am_okT (am_ok1 am_mt yX4_breathsOf.cls yX4_breathsOf.name cX4_breathsOf 7 (some .int)) 0 am_t_X4_breathsOf = true := am_okT_c am_q_X4_breathsOf_0 (am_okT_c am_q_X4_breathsOf_1 (am_okT_c am_q_X4_breathsOf_2 (am_okT_c am_q_X4_breathsOf_3 (rfl))))
def am_m_X4_breathsOf : am_M := (yX4_breathsOf, cX4_breathsOf, 7, (some .int), 1, 733, 88, 731, 732, 4, am_t_X4_breathsOf)
theorem am_k_X4_breathsOf : am_okM am_mt am_m_X4_breathsOf := ⟨by decide +kernel, am_q_X4_breathsOf⟩
def am_t_X4_sortsOf_0 : List (Option am_I) := [some (.iconst 0, 1, 0, 0, 0, 0, 0, 0, []), some (.istore 5, 3, 0, 5, 0, 0, 0, 0, []), none, some (.iconst 1, 4, 0, 0, 0, 0, 1, 0, []), some (.istore 6, 6, 0, 6, 0, 0, 0, 0, []), none, some (.iload 6, 8, 0, 6, 0, 0, 0, 0, []), none, some (.iconst 5, 9, 0, 0, 0, 0, 5, 0, []), some (.if_icmp .gt 47, 12, 56, 0, 0, 0, 0, 0, []), none, none, some (.aload_n 0, 13, 0, 0, 0, 0, 0, 0, []), some (.getfield 15, 16, 0, 4, 1, 276, 0, 0, []), none, none]
def am_t_X4_sortsOf_1 : List (Option am_I) := [some (.aload_n 0, 17, 0, 0, 0, 0, 0, 0, []), some (.getfield 9, 20, 0, 4, 0, 275, 0, 0, []), none, none, some (.invokevirtual 22, 23, 3, 38, 1, 734, 0, 0, []), none, none, some (.aload_n 0, 24, 0, 0, 0, 0, 0, 0, []), some (.getfield 15, 27, 0, 4, 1, 276, 0, 0, []), none, none, some (.getfield 36, 30, 0, 3, 7, 152, 0, 0, []), none, none, some (.iload_n 1, 31, 0, 1, 0, 0, 0, 0, []), some (.iload 6, 33, 0, 6, 0, 0, 0, 0, [])]
def am_t_X4_sortsOf_2 : List (Option am_I) := [none, some (.iastore, 34, 0, 0, 0, 0, 0, 0, []), some (.iload 5, 36, 0, 5, 0, 0, 0, 0, []), none, some (.aload_n 0, 37, 0, 0, 0, 0, 0, 0, []), some (.iload_n 2, 38, 0, 2, 0, 0, 0, 0, []), some (.iload_n 3, 39, 0, 3, 0, 0, 0, 0, []), some (.iload 4, 41, 0, 4, 0, 0, 0, 0, []), none, some (.invokevirtual 32, 44, 4, 57, 3, 735, 0, 0, []), none, none, some (.iload 6, 46, 0, 6, 0, 0, 0, 0, []), none, some (.ishl, 47, 0, 0, 0, 0, 0, 0, []), some (.ior, 48, 0, 0, 0, 0, 0, 0, [])]
def am_t_X4_sortsOf_3 : List (Option am_I) := [some (.istore 5, 50, 0, 5, 0, 0, 0, 0, []), none, some (.iinc 6 1, 53, 0, 6, 0, 0, 1, 0, []), none, none, some (.goto (-47), 56, 6, 0, 0, 0, 0, 0, []), none, none, some (.iload 5, 58, 0, 5, 0, 0, 0, 0, []), none, some (.ireturn, 59, 0, 0, 0, 0, 0, 0, [])]
def am_t_X4_sortsOf : am_T := [am_t_X4_sortsOf_0, am_t_X4_sortsOf_1, am_t_X4_sortsOf_2, am_t_X4_sortsOf_3]
theorem am_q_X4_sortsOf_0 : am_okQ (am_ok1 am_mt yX4_sortsOf.cls yX4_sortsOf.name cX4_sortsOf 7 (some .int)) 0 am_t_X4_sortsOf_0 = true := by decide +kernel
theorem am_q_X4_sortsOf_1 : am_okQ (am_ok1 am_mt yX4_sortsOf.cls yX4_sortsOf.name cX4_sortsOf 7 (some .int)) 1 am_t_X4_sortsOf_1 = true := by decide +kernel
theorem am_q_X4_sortsOf_2 : am_okQ (am_ok1 am_mt yX4_sortsOf.cls yX4_sortsOf.name cX4_sortsOf 7 (some .int)) 2 am_t_X4_sortsOf_2 = true := by decide +kernel
theorem am_q_X4_sortsOf_3 : am_okQ (am_ok1 am_mt yX4_sortsOf.cls yX4_sortsOf.name cX4_sortsOf 7 (some .int)) 3 am_t_X4_sortsOf_3 = true := by decide +kernel
theorem am_q_X4_sortsOf : am_okT (am_ok1 am_mt yX4_sortsOf.cls yX4_sortsOf.name cX4_sortsOf 7 (some .int)) 0 am_t_X4_sortsOf = true := am_okT_c am_q_X4_sortsOf_0 (am_okT_c am_q_X4_sortsOf_1 (am_okT_c am_q_X4_sortsOf_2 (am_okT_c am_q_X4_sortsOf_3 (rfl))))
def am_m_X4_sortsOf : am_M := (yX4_sortsOf, cX4_sortsOf, 7, (some .int), 1, 748, 88, 746, 747, 4, am_t_X4_sortsOf)
theorem am_k_X4_sortsOf : am_okM am_mt am_m_X4_sortsOf := ⟨by decide +kernel, am_q_X4_sortsOf⟩
def am_t_X4_costsOf_0 : List (Option am_I) := [some (.iconst 0, 1, 0, 0, 0, 0, 0, 0, []), some (.istore 4, 3, 0, 4, 0, 0, 0, 0, []), none, some (.iconst 1, 4, 0, 0, 0, 0, 1, 0, []), some (.istore 5, 6, 0, 5, 0, 0, 0, 0, []), none, some (.iload 5, 8, 0, 5, 0, 0, 0, 0, []), none, some (.bipush 9, 10, 0, 0, 0, 0, 9, 0, []), none, some (.if_icmp .gt 44, 13, 54, 0, 0, 0, 0, 0, []), none, none, some (.aload_n 0, 14, 0, 0, 0, 0, 0, 0, []), some (.getfield 15, 17, 0, 4, 1, 276, 0, 0, []), none]
def am_t_X4_costsOf_1 : List (Option am_I) := [none, some (.aload_n 0, 18, 0, 0, 0, 0, 0, 0, []), some (.getfield 9, 21, 0, 4, 0, 275, 0, 0, []), none, none, some (.invokevirtual 22, 24, 3, 38, 1, 734, 0, 0, []), none, none, some (.aload_n 0, 25, 0, 0, 0, 0, 0, 0, []), some (.getfield 15, 28, 0, 4, 1, 276, 0, 0, []), none, none, some (.iload 5, 30, 0, 5, 0, 0, 0, 0, []), none, some (.putfield 39, 33, 0, 3, 1, 129, 0, 0, []), none]
def am_t_X4_costsOf_2 : List (Option am_I) := [none, some (.iload 4, 35, 0, 4, 0, 0, 0, 0, []), none, some (.aload_n 0, 36, 0, 0, 0, 0, 0, 0, []), some (.iload_n 1, 37, 0, 1, 0, 0, 0, 0, []), some (.iload_n 2, 38, 0, 2, 0, 0, 0, 0, []), some (.iload_n 3, 39, 0, 3, 0, 0, 0, 0, []), some (.invokevirtual 32, 42, 4, 57, 3, 735, 0, 0, []), none, none, some (.iload 5, 44, 0, 5, 0, 0, 0, 0, []), none, some (.ishl, 45, 0, 0, 0, 0, 0, 0, []), some (.ior, 46, 0, 0, 0, 0, 0, 0, []), some (.istore 4, 48, 0, 4, 0, 0, 0, 0, []), none]
def am_t_X4_costsOf_3 : List (Option am_I) := [some (.iinc 5 1, 51, 0, 5, 0, 0, 1, 0, []), none, none, some (.goto (-45), 54, 6, 0, 0, 0, 0, 0, []), none, none, some (.iload 4, 56, 0, 4, 0, 0, 0, 0, []), none, some (.ireturn, 57, 0, 0, 0, 0, 0, 0, [])]
def am_t_X4_costsOf : am_T := [am_t_X4_costsOf_0, am_t_X4_costsOf_1, am_t_X4_costsOf_2, am_t_X4_costsOf_3]
theorem am_q_X4_costsOf_0 : am_okQ (am_ok1 am_mt yX4_costsOf.cls yX4_costsOf.name cX4_costsOf 6 (some .int)) 0 am_t_X4_costsOf_0 = true := by decide +kernel
theorem am_q_X4_costsOf_1 : am_okQ (am_ok1 am_mt yX4_costsOf.cls yX4_costsOf.name cX4_costsOf 6 (some .int)) 1 am_t_X4_costsOf_1 = true := by decide +kernel
theorem am_q_X4_costsOf_2 : am_okQ (am_ok1 am_mt yX4_costsOf.cls yX4_costsOf.name cX4_costsOf 6 (some .int)) 2 am_t_X4_costsOf_2 = true := by decide +kernel
theorem am_q_X4_costsOf_3 : am_okQ (am_ok1 am_mt yX4_costsOf.cls yX4_costsOf.name cX4_costsOf 6 (some .int)) 3 am_t_X4_costsOf_3 = true := by decide +kernel
theorem am_q_X4_costsOf : am_okT (am_ok1 am_mt yX4_costsOf.cls yX4_costsOf.name cX4_costsOf 6 (some .int)) 0 am_t_X4_costsOf = true := am_okT_c am_q_X4_costsOf_0 (am_okT_c am_q_X4_costsOf_1 (am_okT_c am_q_X4_costsOf_2 (am_okT_c am_q_X4_costsOf_3 (rfl))))
def am_m_X4_costsOf : am_M := (yX4_costsOf, cX4_costsOf, 6, (some .int), 1, 756, 88, 754, 755, 3, am_t_X4_costsOf)
theorem am_k_X4_costsOf : am_okM am_mt am_m_X4_costsOf := ⟨by decide +kernel, am_q_X4_costsOf⟩
def am_t_X4_comesAbout_0 : List (Option am_I) := [some (.iconst 0, 1, 0, 0, 0, 0, 0, 0, []), some (.istore 4, 3, 0, 4, 0, 0, 0, 0, []), none, some (.iload 4, 5, 0, 4, 0, 0, 0, 0, []), none, some (.iload_n 3, 6, 0, 3, 0, 0, 0, 0, []), some (.if_icmp .ge 46, 9, 52, 0, 0, 0, 0, 0, []), none, none, some (.aload_n 0, 10, 0, 0, 0, 0, 0, 0, []), some (.getfield 15, 13, 0, 4, 1, 276, 0, 0, []), none, none, some (.invokevirtual 43, 16, 3, 45, 0, 739, 0, 0, []), none, none]
def am_t_X4_comesAbout_1 : List (Option am_I) := [some (.istore 5, 18, 0, 5, 0, 0, 0, 0, []), none, some (.aload_n 0, 19, 0, 0, 0, 0, 0, 0, []), some (.getfield 15, 22, 0, 4, 1, 276, 0, 0, []), none, none, some (.iload 5, 24, 0, 5, 0, 0, 0, 0, []), none, some (.iload 5, 26, 0, 5, 0, 0, 0, 0, []), none, some (.invokevirtual 47, 29, 3, 51, 2, 740, 0, 0, []), none, none, some (.aload_n 0, 30, 0, 0, 0, 0, 0, 0, []), some (.getfield 18, 33, 0, 4, 2, 277, 0, 0, []), none]
def am_t_X4_comesAbout_2 : List (Option am_I) := [none, some (.iload_n 1, 34, 0, 1, 0, 0, 0, 0, []), some (.iload_n 2, 35, 0, 2, 0, 0, 0, 0, []), some (.iload 4, 37, 0, 4, 0, 0, 0, 0, []), none, some (.iadd, 38, 0, 0, 0, 0, 0, 0, []), some (.invokevirtual 51, 41, 6, 72, 2, 741, 0, 0, []), none, none, some (.if_icmp .eq 5, 44, 46, 0, 0, 0, 0, 0, []), none, none, some (.iconst 0, 45, 0, 0, 0, 0, 0, 0, []), some (.ireturn, 46, 0, 0, 0, 0, 0, 0, []), some (.iinc 4 1, 49, 0, 4, 0, 0, 1, 0, []), none]
def am_t_X4_comesAbout_3 : List (Option am_I) := [none, some (.goto (-46), 52, 3, 0, 0, 0, 0, 0, []), none, none, some (.iconst 1, 53, 0, 0, 0, 0, 1, 0, []), some (.ireturn, 54, 0, 0, 0, 0, 0, 0, [])]
def am_t_X4_comesAbout : am_T := [am_t_X4_comesAbout_0, am_t_X4_comesAbout_1, am_t_X4_comesAbout_2, am_t_X4_comesAbout_3]
theorem am_q_X4_comesAbout_0 : am_okQ (am_ok1 am_mt yX4_comesAbout.cls yX4_comesAbout.name cX4_comesAbout 6 (some .int)) 0 am_t_X4_comesAbout_0 = true := by decide +kernel
theorem am_q_X4_comesAbout_1 : am_okQ (am_ok1 am_mt yX4_comesAbout.cls yX4_comesAbout.name cX4_comesAbout 6 (some .int)) 1 am_t_X4_comesAbout_1 = true := by decide +kernel
theorem am_q_X4_comesAbout_2 : am_okQ (am_ok1 am_mt yX4_comesAbout.cls yX4_comesAbout.name cX4_comesAbout 6 (some .int)) 2 am_t_X4_comesAbout_2 = true := by decide +kernel
theorem am_q_X4_comesAbout_3 : am_okQ (am_ok1 am_mt yX4_comesAbout.cls yX4_comesAbout.name cX4_comesAbout 6 (some .int)) 3 am_t_X4_comesAbout_3 = true := by decide +kernel
theorem am_q_X4_comesAbout : am_okT (am_ok1 am_mt yX4_comesAbout.cls yX4_comesAbout.name cX4_comesAbout 6 (some .int)) 0 am_t_X4_comesAbout = true := am_okT_c am_q_X4_comesAbout_0 (am_okT_c am_q_X4_comesAbout_1 (am_okT_c am_q_X4_comesAbout_2 (am_okT_c am_q_X4_comesAbout_3 (rfl))))
def am_m_X4_comesAbout : am_M := (yX4_comesAbout, cX4_comesAbout, 6, (some .int), 1, 738, 88, 737, 18, 3, am_t_X4_comesAbout)
theorem am_k_X4_comesAbout : am_okM am_mt am_m_X4_comesAbout := ⟨by decide +kernel, am_q_X4_comesAbout⟩
def am_t_X5_init_0 : List (Option am_I) := [some (.aload_n 0, 1, 0, 0, 0, 0, 0, 0, []), some (.invokespecial 3, 4, 2, 0, 0, 246, 0, 0, []), none, none, some (.aload_n 0, 5, 0, 0, 0, 0, 0, 0, []), some (.bipush 16, 7, 0, 0, 0, 0, 16, 0, []), none, some (.newarray .int, 9, 0, 0, 16, 0, 0, 0, []), none, some (.putfield 9, 12, 2, 5, 2, 249, 0, 0, []), none, none, some (.aload_n 0, 13, 0, 0, 0, 0, 0, 0, []), some (.iconst 4, 14, 0, 0, 0, 0, 4, 0, []), some (.newarray .int, 16, 0, 0, 4, 0, 0, 0, []), none]
def am_t_X5_init_1 : List (Option am_I) := [some (.putfield 15, 19, 2, 5, 3, 250, 0, 0, []), none, none, some (.aload_n 0, 20, 0, 0, 0, 0, 0, 0, []), some (.iconst 4, 21, 0, 0, 0, 0, 4, 0, []), some (.newarray .int, 23, 0, 0, 4, 0, 0, 0, []), none, some (.putfield 18, 26, 2, 5, 4, 251, 0, 0, []), none, none, some (.aload_n 0, 27, 0, 0, 0, 0, 0, 0, []), some (.aload_n 1, 28, 0, 1, 0, 0, 0, 0, []), some (.putfield 21, 31, 2, 5, 0, 247, 0, 0, []), none, none, some (.aload_n 0, 32, 0, 0, 0, 0, 0, 0, [])]
def am_t_X5_init_2 : List (Option am_I) := [some (.aload_n 2, 33, 0, 2, 0, 0, 0, 0, []), some (.putfield 25, 36, 2, 5, 1, 248, 0, 0, []), none, none, some (.return_, 37, 0, 0, 0, 0, 0, 0, [])]
def am_t_X5_init : am_T := [am_t_X5_init_0, am_t_X5_init_1, am_t_X5_init_2]
theorem am_q_X5_init_0 : am_okQ (am_ok1 am_mt yX5_init.cls yX5_init.name cX5_init 3 none) 0 am_t_X5_init_0 = true := by decide +kernel
theorem am_q_X5_init_1 : am_okQ (am_ok1 am_mt yX5_init.cls yX5_init.name cX5_init 3 none) 1 am_t_X5_init_1 = true := by decide +kernel
theorem am_q_X5_init_2 : am_okQ (am_ok1 am_mt yX5_init.cls yX5_init.name cX5_init 3 none) 2 am_t_X5_init_2 = true := by decide +kernel
theorem am_q_X5_init : am_okT (am_ok1 am_mt yX5_init.cls yX5_init.name cX5_init 3 none) 0 am_t_X5_init = true := am_okT_c am_q_X5_init_0 (am_okT_c am_q_X5_init_1 (am_okT_c am_q_X5_init_2 (rfl)))
def am_m_X5_init : am_M := (yX5_init, cX5_init, 3, none, 2, 245, 87, 244, 0, 2, am_t_X5_init)
theorem am_k_X5_init : am_okM am_mt am_m_X5_init := ⟨by decide +kernel, am_q_X5_init⟩
def am_t_X5_bestDays_0 : List (Option am_I) := [some (.iload_n 2, 1, 0, 2, 0, 0, 0, 0, []), some (.iload_n 1, 2, 0, 1, 0, 0, 0, 0, []), some (.if_icmp .lt 6, 5, 8, 0, 0, 0, 0, 0, []), none, none, some (.ldc 28, 7, 0, 0, 0, 641, (-1000000), 0, []), none, some (.ireturn, 8, 0, 0, 0, 0, 0, 0, []), some (.aload_n 0, 9, 0, 0, 0, 0, 0, 0, []), some (.getfield 25, 12, 0, 5, 1, 248, 0, 0, []), none, none, some (.aload_n 0, 13, 0, 0, 0, 0, 0, 0, []), some (.getfield 21, 16, 0, 5, 0, 247, 0, 0, []), none, none]
def am_t_X5_bestDays_1 : List (Option am_I) := [some (.invokevirtual 29, 19, 3, 38, 1, 642, 0, 0, []), none, none, some (.aload_n 0, 20, 0, 0, 0, 0, 0, 0, []), some (.iload_n 1, 21, 0, 1, 0, 0, 0, 0, []), some (.putfield 35, 24, 0, 5, 5, 252, 0, 0, []), none, none, some (.aload_n 0, 25, 0, 0, 0, 0, 0, 0, []), some (.iconst (-1), 26, 0, 0, 0, 0, (-1), 0, []), some (.putfield 39, 29, 0, 5, 6, 253, 0, 0, []), none, none, some (.aload_n 0, 30, 0, 0, 0, 0, 0, 0, []), some (.iconst 0, 31, 0, 0, 0, 0, 0, 0, []), some (.iconst 0, 32, 0, 0, 0, 0, 0, 0, [])]
def am_t_X5_bestDays_2 : List (Option am_I) := [some (.invokevirtual 42, 35, 5, 60, 2, 643, 0, 0, []), none, none, some (.iload_n 2, 36, 0, 2, 0, 0, 0, 0, []), some (.ifCond .ge 10, 39, 46, 0, 0, 0, 0, 0, []), none, none, some (.aload_n 0, 40, 0, 0, 0, 0, 0, 0, []), some (.getfield 39, 43, 0, 5, 6, 253, 0, 0, []), none, none, some (.goto 9, 46, 52, 0, 0, 0, 0, 0, []), none, none, some (.aload_n 0, 47, 0, 0, 0, 0, 0, 0, []), some (.getfield 18, 50, 0, 5, 4, 251, 0, 0, [])]
def am_t_X5_bestDays_3 : List (Option am_I) := [none, none, some (.iload_n 2, 51, 0, 2, 0, 0, 0, 0, []), some (.iaload, 52, 0, 0, 0, 0, 0, 0, []), some (.ireturn, 53, 0, 0, 0, 0, 0, 0, [])]
def am_t_X5_bestDays : am_T := [am_t_X5_bestDays_0, am_t_X5_bestDays_1, am_t_X5_bestDays_2, am_t_X5_bestDays_3]
theorem am_q_X5_bestDays_0 : am_okQ (am_ok1 am_mt yX5_bestDays.cls yX5_bestDays.name cX5_bestDays 3 (some .int)) 0 am_t_X5_bestDays_0 = true := by decide +kernel
theorem am_q_X5_bestDays_1 : am_okQ (am_ok1 am_mt yX5_bestDays.cls yX5_bestDays.name cX5_bestDays 3 (some .int)) 1 am_t_X5_bestDays_1 = true := by decide +kernel
theorem am_q_X5_bestDays_2 : am_okQ (am_ok1 am_mt yX5_bestDays.cls yX5_bestDays.name cX5_bestDays 3 (some .int)) 2 am_t_X5_bestDays_2 = true := by decide +kernel
theorem am_q_X5_bestDays_3 : am_okQ (am_ok1 am_mt yX5_bestDays.cls yX5_bestDays.name cX5_bestDays 3 (some .int)) 3 am_t_X5_bestDays_3 = true := by decide +kernel
theorem am_q_X5_bestDays : am_okT (am_ok1 am_mt yX5_bestDays.cls yX5_bestDays.name cX5_bestDays 3 (some .int)) 0 am_t_X5_bestDays = true := am_okT_c am_q_X5_bestDays_0 (am_okT_c am_q_X5_bestDays_1 (am_okT_c am_q_X5_bestDays_2 (am_okT_c am_q_X5_bestDays_3 (rfl))))
def am_m_X5_bestDays : am_M := (yX5_bestDays, cX5_bestDays, 3, (some .int), 1, 640, 87, 638, 639, 2, am_t_X5_bestDays)
theorem am_k_X5_bestDays : am_okM am_mt am_m_X5_bestDays := ⟨by decide +kernel, am_q_X5_bestDays⟩
def am_t_X5_tryDay_0 : List (Option am_I) := [some (.iload_n 1, 1, 0, 1, 0, 0, 0, 0, []), some (.aload_n 0, 2, 0, 0, 0, 0, 0, 0, []), some (.getfield 35, 5, 0, 5, 5, 252, 0, 0, []), none, none, some (.if_icmp .ge 18, 8, 23, 0, 0, 0, 0, 0, []), none, none, some (.iload_n 2, 9, 0, 2, 0, 0, 0, 0, []), some (.aload_n 0, 10, 0, 0, 0, 0, 0, 0, []), some (.getfield 35, 13, 0, 5, 5, 252, 0, 0, []), none, none, some (.iadd, 14, 0, 0, 0, 0, 0, 0, []), some (.iload_n 1, 15, 0, 1, 0, 0, 0, 0, []), some (.isub, 16, 0, 0, 0, 0, 0, 0, [])]
def am_t_X5_tryDay_1 : List (Option am_I) := [some (.aload_n 0, 17, 0, 0, 0, 0, 0, 0, []), some (.getfield 39, 20, 0, 5, 6, 253, 0, 0, []), none, none, some (.if_icmp .gt 4, 23, 24, 0, 0, 0, 0, 0, []), none, none, some (.return_, 24, 0, 0, 0, 0, 0, 0, []), some (.aload_n 0, 25, 0, 0, 0, 0, 0, 0, []), some (.getfield 25, 28, 0, 5, 1, 248, 0, 0, []), none, none, some (.invokevirtual 46, 31, 3, 45, 0, 647, 0, 0, []), none, none, some (.istore_n 3, 32, 0, 3, 0, 0, 0, 0, [])]
def am_t_X5_tryDay_2 : List (Option am_I) := [some (.iload_n 1, 33, 0, 1, 0, 0, 0, 0, []), some (.aload_n 0, 34, 0, 0, 0, 0, 0, 0, []), some (.getfield 35, 37, 0, 5, 5, 252, 0, 0, []), none, none, some (.iconst 1, 38, 0, 0, 0, 0, 1, 0, []), some (.isub, 39, 0, 0, 0, 0, 0, 0, []), some (.if_icmp .ne 10, 42, 49, 0, 0, 0, 0, 0, []), none, none, some (.aload_n 0, 43, 0, 0, 0, 0, 0, 0, []), some (.iload_n 3, 44, 0, 3, 0, 0, 0, 0, []), some (.iload_n 2, 45, 0, 2, 0, 0, 0, 0, []), some (.invokevirtual 50, 48, 5, 61, 2, 648, 0, 0, []), none, none]
def am_t_X5_tryDay_3 : List (Option am_I) := [some (.return_, 49, 0, 0, 0, 0, 0, 0, []), some (.aload_n 0, 50, 0, 0, 0, 0, 0, 0, []), some (.iload_n 1, 51, 0, 1, 0, 0, 0, 0, []), some (.invokevirtual 53, 54, 5, 63, 1, 657, 0, 0, []), none, none, some (.iconst 0, 55, 0, 0, 0, 0, 0, 0, []), some (.istore 4, 57, 0, 4, 0, 0, 0, 0, []), none, some (.iload 4, 59, 0, 4, 0, 0, 0, 0, []), none, some (.bipush 16, 61, 0, 0, 0, 0, 16, 0, []), none, some (.if_icmp .ge 54, 64, 115, 0, 0, 0, 0, 0, []), none, none]
def am_t_X5_tryDay_4 : List (Option am_I) := [some (.iload 4, 66, 0, 4, 0, 0, 0, 0, []), none, some (.iload_n 3, 67, 0, 3, 0, 0, 0, 0, []), some (.iconst (-1), 68, 0, 0, 0, 0, (-1), 0, []), some (.ixor, 69, 0, 0, 0, 0, 0, 0, []), some (.iand, 70, 0, 0, 0, 0, 0, 0, []), some (.ifCond .ne 39, 73, 109, 0, 0, 0, 0, 0, []), none, none, some (.aload_n 0, 74, 0, 0, 0, 0, 0, 0, []), some (.getfield 15, 77, 0, 5, 3, 250, 0, 0, []), none, none, some (.iload_n 1, 78, 0, 1, 0, 0, 0, 0, []), some (.iload 4, 80, 0, 4, 0, 0, 0, 0, []), none]
def am_t_X5_tryDay_5 : List (Option am_I) := [some (.iastore, 81, 0, 0, 0, 0, 0, 0, []), some (.aload_n 0, 82, 0, 0, 0, 0, 0, 0, []), some (.getfield 25, 85, 0, 5, 1, 248, 0, 0, []), none, none, some (.iload 4, 87, 0, 4, 0, 0, 0, 0, []), none, some (.iload_n 3, 88, 0, 3, 0, 0, 0, 0, []), some (.invokevirtual 57, 91, 3, 51, 2, 662, 0, 0, []), none, none, some (.istore 5, 93, 0, 5, 0, 0, 0, 0, []), none, some (.aload_n 0, 94, 0, 0, 0, 0, 0, 0, []), some (.iload_n 1, 95, 0, 1, 0, 0, 0, 0, []), some (.iconst 1, 96, 0, 0, 0, 0, 1, 0, [])]
def am_t_X5_tryDay_6 : List (Option am_I) := [some (.iadd, 97, 0, 0, 0, 0, 0, 0, []), some (.iload_n 2, 98, 0, 2, 0, 0, 0, 0, []), some (.iload 5, 100, 0, 5, 0, 0, 0, 0, []), none, some (.iadd, 101, 0, 0, 0, 0, 0, 0, []), some (.invokevirtual 42, 104, 5, 60, 2, 643, 0, 0, []), none, none, some (.aload_n 0, 105, 0, 0, 0, 0, 0, 0, []), some (.iload_n 1, 106, 0, 1, 0, 0, 0, 0, []), some (.invokevirtual 61, 109, 5, 64, 1, 663, 0, 0, []), none, none, some (.iinc 4 1, 112, 0, 4, 0, 0, 1, 0, []), none, none]
def am_t_X5_tryDay_7 : List (Option am_I) := [some (.goto (-55), 115, 57, 0, 0, 0, 0, 0, []), none, none, some (.return_, 116, 0, 0, 0, 0, 0, 0, [])]
def am_t_X5_tryDay : am_T := [am_t_X5_tryDay_0, am_t_X5_tryDay_1, am_t_X5_tryDay_2, am_t_X5_tryDay_3, am_t_X5_tryDay_4, am_t_X5_tryDay_5, am_t_X5_tryDay_6, am_t_X5_tryDay_7]
theorem am_q_X5_tryDay_0 : am_okQ (am_ok1 am_mt yX5_tryDay.cls yX5_tryDay.name cX5_tryDay 6 none) 0 am_t_X5_tryDay_0 = true := by decide +kernel
theorem am_q_X5_tryDay_1 : am_okQ (am_ok1 am_mt yX5_tryDay.cls yX5_tryDay.name cX5_tryDay 6 none) 1 am_t_X5_tryDay_1 = true := by decide +kernel
theorem am_q_X5_tryDay_2 : am_okQ (am_ok1 am_mt yX5_tryDay.cls yX5_tryDay.name cX5_tryDay 6 none) 2 am_t_X5_tryDay_2 = true := by decide +kernel
theorem am_q_X5_tryDay_3 : am_okQ (am_ok1 am_mt yX5_tryDay.cls yX5_tryDay.name cX5_tryDay 6 none) 3 am_t_X5_tryDay_3 = true := by decide +kernel
theorem am_q_X5_tryDay_4 : am_okQ (am_ok1 am_mt yX5_tryDay.cls yX5_tryDay.name cX5_tryDay 6 none) 4 am_t_X5_tryDay_4 = true := by decide +kernel
theorem am_q_X5_tryDay_5 : am_okQ (am_ok1 am_mt yX5_tryDay.cls yX5_tryDay.name cX5_tryDay 6 none) 5 am_t_X5_tryDay_5 = true := by decide +kernel
theorem am_q_X5_tryDay_6 : am_okQ (am_ok1 am_mt yX5_tryDay.cls yX5_tryDay.name cX5_tryDay 6 none) 6 am_t_X5_tryDay_6 = true := by decide +kernel
theorem am_q_X5_tryDay_7 : am_okQ (am_ok1 am_mt yX5_tryDay.cls yX5_tryDay.name cX5_tryDay 6 none) 7 am_t_X5_tryDay_7 = true := by decide +kernel
theorem am_q_X5_tryDay : am_okT (am_ok1 am_mt yX5_tryDay.cls yX5_tryDay.name cX5_tryDay 6 none) 0 am_t_X5_tryDay = true := am_okT_c am_q_X5_tryDay_0 (am_okT_c am_q_X5_tryDay_1 (am_okT_c am_q_X5_tryDay_2 (am_okT_c am_q_X5_tryDay_3 (am_okT_c am_q_X5_tryDay_4 (am_okT_c am_q_X5_tryDay_5 (am_okT_c am_q_X5_tryDay_6 (am_okT_c am_q_X5_tryDay_7 (rfl))))))))
def am_m_X5_tryDay : am_M := (yX5_tryDay, cX5_tryDay, 6, none, 1, 646, 87, 645, 11, 2, am_t_X5_tryDay)
theorem am_k_X5_tryDay : am_okM am_mt am_m_X5_tryDay := ⟨by decide +kernel, am_q_X5_tryDay⟩
def am_t_X5_closePlan_0 : List (Option am_I) := [some (.aload_n 0, 1, 0, 0, 0, 0, 0, 0, []), some (.getfield 25, 4, 0, 5, 1, 248, 0, 0, []), none, none, some (.iload_n 1, 5, 0, 1, 0, 0, 0, 0, []), some (.iload_n 1, 6, 0, 1, 0, 0, 0, 0, []), some (.invokevirtual 64, 9, 3, 49, 2, 652, 0, 0, []), none, none, some (.ifCond .ne 18, 12, 27, 0, 0, 0, 0, 0, []), none, none, some (.iload_n 2, 13, 0, 2, 0, 0, 0, 0, []), some (.aload_n 0, 14, 0, 0, 0, 0, 0, 0, []), some (.getfield 39, 17, 0, 5, 6, 253, 0, 0, []), none]
def am_t_X5_closePlan_1 : List (Option am_I) := [none, some (.if_icmp .le 9, 20, 26, 0, 0, 0, 0, 0, []), none, none, some (.aload_n 0, 21, 0, 0, 0, 0, 0, 0, []), some (.iconst 0, 22, 0, 0, 0, 0, 0, 0, []), some (.iload_n 2, 23, 0, 2, 0, 0, 0, 0, []), some (.invokevirtual 68, 26, 5, 62, 2, 653, 0, 0, []), none, none, some (.return_, 27, 0, 0, 0, 0, 0, 0, []), some (.iconst 0, 28, 0, 0, 0, 0, 0, 0, []), some (.istore_n 3, 29, 0, 3, 0, 0, 0, 0, []), some (.iload_n 3, 30, 0, 3, 0, 0, 0, 0, []), some (.iload_n 1, 31, 0, 1, 0, 0, 0, 0, []), some (.if_icmp .gt 38, 34, 69, 0, 0, 0, 0, 0, [])]
def am_t_X5_closePlan_2 : List (Option am_I) := [none, none, some (.iload_n 3, 35, 0, 3, 0, 0, 0, 0, []), some (.iload_n 1, 36, 0, 1, 0, 0, 0, 0, []), some (.iconst (-1), 37, 0, 0, 0, 0, (-1), 0, []), some (.ixor, 38, 0, 0, 0, 0, 0, 0, []), some (.iand, 39, 0, 0, 0, 0, 0, 0, []), some (.ifCond .ne 24, 42, 63, 0, 0, 0, 0, 0, []), none, none, some (.aload_n 0, 43, 0, 0, 0, 0, 0, 0, []), some (.getfield 25, 46, 0, 5, 1, 248, 0, 0, []), none, none, some (.iload_n 3, 47, 0, 3, 0, 0, 0, 0, []), some (.iload_n 1, 48, 0, 1, 0, 0, 0, 0, [])]
def am_t_X5_closePlan_3 : List (Option am_I) := [some (.invokevirtual 64, 51, 3, 49, 2, 652, 0, 0, []), none, none, some (.ifCond .eq 12, 54, 63, 0, 0, 0, 0, 0, []), none, none, some (.aload_n 0, 55, 0, 0, 0, 0, 0, 0, []), some (.iload_n 3, 56, 0, 3, 0, 0, 0, 0, []), some (.iload_n 2, 57, 0, 2, 0, 0, 0, 0, []), some (.iconst 1, 58, 0, 0, 0, 0, 1, 0, []), some (.iadd, 59, 0, 0, 0, 0, 0, 0, []), some (.invokevirtual 68, 62, 5, 62, 2, 653, 0, 0, []), none, none, some (.return_, 63, 0, 0, 0, 0, 0, 0, []), some (.iinc 3 1, 66, 0, 3, 0, 0, 1, 0, [])]
def am_t_X5_closePlan_4 : List (Option am_I) := [none, none, some (.goto (-37), 69, 29, 0, 0, 0, 0, 0, []), none, none, some (.return_, 70, 0, 0, 0, 0, 0, 0, [])]
def am_t_X5_closePlan : am_T := [am_t_X5_closePlan_0, am_t_X5_closePlan_1, am_t_X5_closePlan_2, am_t_X5_closePlan_3, am_t_X5_closePlan_4]
theorem am_q_X5_closePlan_0 : am_okQ (am_ok1 am_mt yX5_closePlan.cls yX5_closePlan.name cX5_closePlan 4 none) 0 am_t_X5_closePlan_0 = true := by decide +kernel
theorem am_q_X5_closePlan_1 : am_okQ (am_ok1 am_mt yX5_closePlan.cls yX5_closePlan.name cX5_closePlan 4 none) 1 am_t_X5_closePlan_1 = true := by decide +kernel
theorem am_q_X5_closePlan_2 : am_okQ (am_ok1 am_mt yX5_closePlan.cls yX5_closePlan.name cX5_closePlan 4 none) 2 am_t_X5_closePlan_2 = true := by decide +kernel
theorem am_q_X5_closePlan_3 : am_okQ (am_ok1 am_mt yX5_closePlan.cls yX5_closePlan.name cX5_closePlan 4 none) 3 am_t_X5_closePlan_3 = true := by decide +kernel
theorem am_q_X5_closePlan_4 : am_okQ (am_ok1 am_mt yX5_closePlan.cls yX5_closePlan.name cX5_closePlan 4 none) 4 am_t_X5_closePlan_4 = true := by decide +kernel
theorem am_q_X5_closePlan : am_okT (am_ok1 am_mt yX5_closePlan.cls yX5_closePlan.name cX5_closePlan 4 none) 0 am_t_X5_closePlan = true := am_okT_c am_q_X5_closePlan_0 (am_okT_c am_q_X5_closePlan_1 (am_okT_c am_q_X5_closePlan_2 (am_okT_c am_q_X5_closePlan_3 (am_okT_c am_q_X5_closePlan_4 (rfl)))))
def am_m_X5_closePlan : am_M := (yX5_closePlan, cX5_closePlan, 4, none, 1, 651, 87, 650, 12, 2, am_t_X5_closePlan)
theorem am_k_X5_closePlan : am_okM am_mt am_m_X5_closePlan := ⟨by decide +kernel, am_q_X5_closePlan⟩
def am_t_X5_takePath_0 : List (Option am_I) := [some (.aload_n 0, 1, 0, 0, 0, 0, 0, 0, []), some (.iload_n 2, 2, 0, 2, 0, 0, 0, 0, []), some (.putfield 39, 5, 0, 5, 6, 253, 0, 0, []), none, none, some (.iconst 0, 6, 0, 0, 0, 0, 0, 0, []), some (.istore_n 3, 7, 0, 3, 0, 0, 0, 0, []), some (.iload_n 3, 8, 0, 3, 0, 0, 0, 0, []), some (.aload_n 0, 9, 0, 0, 0, 0, 0, 0, []), some (.getfield 35, 12, 0, 5, 5, 252, 0, 0, []), none, none, some (.iconst 1, 13, 0, 0, 0, 0, 1, 0, []), some (.isub, 14, 0, 0, 0, 0, 0, 0, []), some (.if_icmp .ge 21, 17, 35, 0, 0, 0, 0, 0, []), none]
def am_t_X5_takePath_1 : List (Option am_I) := [none, some (.aload_n 0, 18, 0, 0, 0, 0, 0, 0, []), some (.getfield 18, 21, 0, 5, 4, 251, 0, 0, []), none, none, some (.iload_n 3, 22, 0, 3, 0, 0, 0, 0, []), some (.aload_n 0, 23, 0, 0, 0, 0, 0, 0, []), some (.getfield 15, 26, 0, 5, 3, 250, 0, 0, []), none, none, some (.iload_n 3, 27, 0, 3, 0, 0, 0, 0, []), some (.iaload, 28, 0, 0, 0, 0, 0, 0, []), some (.iastore, 29, 0, 0, 0, 0, 0, 0, []), some (.iinc 3 1, 32, 0, 3, 0, 0, 1, 0, []), none, none]
def am_t_X5_takePath_2 : List (Option am_I) := [some (.goto (-25), 35, 7, 0, 0, 0, 0, 0, []), none, none, some (.aload_n 0, 36, 0, 0, 0, 0, 0, 0, []), some (.getfield 18, 39, 0, 5, 4, 251, 0, 0, []), none, none, some (.aload_n 0, 40, 0, 0, 0, 0, 0, 0, []), some (.getfield 35, 43, 0, 5, 5, 252, 0, 0, []), none, none, some (.iconst 1, 44, 0, 0, 0, 0, 1, 0, []), some (.isub, 45, 0, 0, 0, 0, 0, 0, []), some (.iload_n 1, 46, 0, 1, 0, 0, 0, 0, []), some (.iastore, 47, 0, 0, 0, 0, 0, 0, []), some (.return_, 48, 0, 0, 0, 0, 0, 0, [])]
def am_t_X5_takePath : am_T := [am_t_X5_takePath_0, am_t_X5_takePath_1, am_t_X5_takePath_2]
theorem am_q_X5_takePath_0 : am_okQ (am_ok1 am_mt yX5_takePath.cls yX5_takePath.name cX5_takePath 4 none) 0 am_t_X5_takePath_0 = true := by decide +kernel
theorem am_q_X5_takePath_1 : am_okQ (am_ok1 am_mt yX5_takePath.cls yX5_takePath.name cX5_takePath 4 none) 1 am_t_X5_takePath_1 = true := by decide +kernel
theorem am_q_X5_takePath_2 : am_okQ (am_ok1 am_mt yX5_takePath.cls yX5_takePath.name cX5_takePath 4 none) 2 am_t_X5_takePath_2 = true := by decide +kernel
theorem am_q_X5_takePath : am_okT (am_ok1 am_mt yX5_takePath.cls yX5_takePath.name cX5_takePath 4 none) 0 am_t_X5_takePath = true := am_okT_c am_q_X5_takePath_0 (am_okT_c am_q_X5_takePath_1 (am_okT_c am_q_X5_takePath_2 (rfl)))
def am_m_X5_takePath : am_M := (yX5_takePath, cX5_takePath, 4, none, 1, 656, 87, 655, 13, 2, am_t_X5_takePath)
theorem am_k_X5_takePath : am_okM am_mt am_m_X5_takePath := ⟨by decide +kernel, am_q_X5_takePath⟩
def am_t_X5_keepBreaths_0 : List (Option am_I) := [some (.aload_n 0, 1, 0, 0, 0, 0, 0, 0, []), some (.getfield 25, 4, 0, 5, 1, 248, 0, 0, []), none, none, some (.getfield 71, 7, 0, 3, 8, 158, 0, 0, []), none, none, some (.iconst 0, 8, 0, 0, 0, 0, 0, 0, []), some (.aload_n 0, 9, 0, 0, 0, 0, 0, 0, []), some (.getfield 9, 12, 0, 5, 2, 249, 0, 0, []), none, none, some (.iload_n 1, 13, 0, 1, 0, 0, 0, 0, []), some (.iconst 4, 14, 0, 0, 0, 0, 4, 0, []), some (.imul, 15, 0, 0, 0, 0, 0, 0, []), some (.iconst 4, 16, 0, 0, 0, 0, 4, 0, [])]
def am_t_X5_keepBreaths_1 : List (Option am_I) := [some (.invokestatic 74, 19, 2, 0, 0, 661, 0, 0, []), none, none, some (.return_, 20, 0, 0, 0, 0, 0, 0, [])]
def am_t_X5_keepBreaths : am_T := [am_t_X5_keepBreaths_0, am_t_X5_keepBreaths_1]
theorem am_q_X5_keepBreaths_0 : am_okQ (am_ok1 am_mt yX5_keepBreaths.cls yX5_keepBreaths.name cX5_keepBreaths 2 none) 0 am_t_X5_keepBreaths_0 = true := by decide +kernel
theorem am_q_X5_keepBreaths_1 : am_okQ (am_ok1 am_mt yX5_keepBreaths.cls yX5_keepBreaths.name cX5_keepBreaths 2 none) 1 am_t_X5_keepBreaths_1 = true := by decide +kernel
theorem am_q_X5_keepBreaths : am_okT (am_ok1 am_mt yX5_keepBreaths.cls yX5_keepBreaths.name cX5_keepBreaths 2 none) 0 am_t_X5_keepBreaths = true := am_okT_c am_q_X5_keepBreaths_0 (am_okT_c am_q_X5_keepBreaths_1 (rfl))
def am_m_X5_keepBreaths : am_M := (yX5_keepBreaths, cX5_keepBreaths, 2, none, 1, 660, 87, 659, 14, 1, am_t_X5_keepBreaths)
theorem am_k_X5_keepBreaths : am_okM am_mt am_m_X5_keepBreaths := ⟨by decide +kernel, am_q_X5_keepBreaths⟩
def am_t_X5_giveBreathsBack_0 : List (Option am_I) := [some (.aload_n 0, 1, 0, 0, 0, 0, 0, 0, []), some (.getfield 9, 4, 0, 5, 2, 249, 0, 0, []), none, none, some (.iload_n 1, 5, 0, 1, 0, 0, 0, 0, []), some (.iconst 4, 6, 0, 0, 0, 0, 4, 0, []), some (.imul, 7, 0, 0, 0, 0, 0, 0, []), some (.aload_n 0, 8, 0, 0, 0, 0, 0, 0, []), some (.getfield 25, 11, 0, 5, 1, 248, 0, 0, []), none, none, some (.getfield 71, 14, 0, 3, 8, 158, 0, 0, []), none, none, some (.iconst 0, 15, 0, 0, 0, 0, 0, 0, []), some (.iconst 4, 16, 0, 0, 0, 0, 4, 0, [])]
def am_t_X5_giveBreathsBack_1 : List (Option am_I) := [some (.invokestatic 74, 19, 2, 0, 0, 661, 0, 0, []), none, none, some (.aload_n 0, 20, 0, 0, 0, 0, 0, 0, []), some (.getfield 25, 23, 0, 5, 1, 248, 0, 0, []), none, none, some (.aload_n 0, 24, 0, 0, 0, 0, 0, 0, []), some (.getfield 21, 27, 0, 5, 0, 247, 0, 0, []), none, none, some (.getfield 80, 30, 0, 3, 4, 142, 0, 0, []), none, none, some (.iload_n 1, 31, 0, 1, 0, 0, 0, 0, []), some (.iadd, 32, 0, 0, 0, 0, 0, 0, [])]
def am_t_X5_giveBreathsBack_2 : List (Option am_I) := [some (.putfield 80, 35, 0, 3, 4, 142, 0, 0, []), none, none, some (.return_, 36, 0, 0, 0, 0, 0, 0, [])]
def am_t_X5_giveBreathsBack : am_T := [am_t_X5_giveBreathsBack_0, am_t_X5_giveBreathsBack_1, am_t_X5_giveBreathsBack_2]
theorem am_q_X5_giveBreathsBack_0 : am_okQ (am_ok1 am_mt yX5_giveBreathsBack.cls yX5_giveBreathsBack.name cX5_giveBreathsBack 2 none) 0 am_t_X5_giveBreathsBack_0 = true := by decide +kernel
theorem am_q_X5_giveBreathsBack_1 : am_okQ (am_ok1 am_mt yX5_giveBreathsBack.cls yX5_giveBreathsBack.name cX5_giveBreathsBack 2 none) 1 am_t_X5_giveBreathsBack_1 = true := by decide +kernel
theorem am_q_X5_giveBreathsBack_2 : am_okQ (am_ok1 am_mt yX5_giveBreathsBack.cls yX5_giveBreathsBack.name cX5_giveBreathsBack 2 none) 2 am_t_X5_giveBreathsBack_2 = true := by decide +kernel
theorem am_q_X5_giveBreathsBack : am_okT (am_ok1 am_mt yX5_giveBreathsBack.cls yX5_giveBreathsBack.name cX5_giveBreathsBack 2 none) 0 am_t_X5_giveBreathsBack = true := am_okT_c am_q_X5_giveBreathsBack_0 (am_okT_c am_q_X5_giveBreathsBack_1 (am_okT_c am_q_X5_giveBreathsBack_2 (rfl)))
def am_m_X5_giveBreathsBack : am_M := (yX5_giveBreathsBack, cX5_giveBreathsBack, 2, none, 1, 666, 87, 665, 15, 1, am_t_X5_giveBreathsBack)
theorem am_k_X5_giveBreathsBack : am_okM am_mt am_m_X5_giveBreathsBack := ⟨by decide +kernel, am_q_X5_giveBreathsBack⟩
def am_t_X6_init_0 : List (Option am_I) := [some (.aload_n 0, 1, 0, 0, 0, 0, 0, 0, []), some (.invokespecial 3, 4, 2, 0, 0, 107, 0, 0, []), none, none, some (.aload_n 0, 5, 0, 0, 0, 0, 0, 0, []), some (.bipush 8, 7, 0, 0, 0, 0, 8, 0, []), none, some (.newarray .int, 9, 0, 0, 8, 0, 0, 0, []), none, some (.putfield 9, 12, 2, 6, 0, 108, 0, 0, []), none, none, some (.aload_n 0, 13, 0, 0, 0, 0, 0, 0, []), some (.bipush 8, 15, 0, 0, 0, 0, 8, 0, []), none, some (.newarray .int, 17, 0, 0, 8, 0, 0, 0, [])]
def am_t_X6_init_1 : List (Option am_I) := [none, some (.putfield 15, 20, 2, 6, 1, 109, 0, 0, []), none, none, some (.aload_n 0, 21, 0, 0, 0, 0, 0, 0, []), some (.sipush 320, 24, 0, 0, 0, 0, 320, 0, []), none, none, some (.newarray .int, 26, 0, 0, 320, 0, 0, 0, []), none, some (.putfield 18, 29, 2, 6, 2, 110, 0, 0, []), none, none, some (.iconst 0, 30, 0, 0, 0, 0, 0, 0, []), some (.istore_n 1, 31, 0, 1, 0, 0, 0, 0, []), some (.iload_n 1, 32, 0, 1, 0, 0, 0, 0, [])]
def am_t_X6_init_2 : List (Option am_I) := [some (.bipush 8, 34, 0, 0, 0, 0, 8, 0, []), none, some (.if_icmp .ge 16, 37, 50, 0, 0, 0, 0, 0, []), none, none, some (.aload_n 0, 38, 0, 0, 0, 0, 0, 0, []), some (.getfield 15, 41, 0, 6, 1, 109, 0, 0, []), none, none, some (.iload_n 1, 42, 0, 1, 0, 0, 0, 0, []), some (.iconst (-1), 43, 0, 0, 0, 0, (-1), 0, []), some (.iastore, 44, 0, 0, 0, 0, 0, 0, []), some (.iinc 1 1, 47, 0, 1, 0, 0, 1, 0, []), none, none, some (.goto (-16), 50, 31, 0, 0, 0, 0, 0, [])]
def am_t_X6_init_3 : List (Option am_I) := [none, none, some (.return_, 51, 0, 0, 0, 0, 0, 0, [])]
def am_t_X6_init : am_T := [am_t_X6_init_0, am_t_X6_init_1, am_t_X6_init_2, am_t_X6_init_3]
theorem am_q_X6_init_0 : am_okQ (am_ok1 am_mt yX6_init.cls yX6_init.name cX6_init 2 none) 0 am_t_X6_init_0 = true := by decide +kernel
theorem am_q_X6_init_1 : am_okQ (am_ok1 am_mt yX6_init.cls yX6_init.name cX6_init 2 none) 1 am_t_X6_init_1 = true := by decide +kernel
theorem am_q_X6_init_2 : am_okQ (am_ok1 am_mt yX6_init.cls yX6_init.name cX6_init 2 none) 2 am_t_X6_init_2 = true := by decide +kernel
theorem am_q_X6_init_3 : am_okQ (am_ok1 am_mt yX6_init.cls yX6_init.name cX6_init 2 none) 3 am_t_X6_init_3 = true := by decide +kernel
theorem am_q_X6_init : am_okT (am_ok1 am_mt yX6_init.cls yX6_init.name cX6_init 2 none) 0 am_t_X6_init = true := am_okT_c am_q_X6_init_0 (am_okT_c am_q_X6_init_1 (am_okT_c am_q_X6_init_2 (am_okT_c am_q_X6_init_3 (rfl))))
def am_m_X6_init : am_M := (yX6_init, cX6_init, 2, none, 2, 106, 82, 105, 0, 0, am_t_X6_init)
theorem am_k_X6_init : am_okM am_mt am_m_X6_init := ⟨by decide +kernel, am_q_X6_init⟩
def am_t_X6_isRow_0 : List (Option am_I) := [some (.iload_n 1, 1, 0, 1, 0, 0, 0, 0, []), some (.ifCond .lt 13, 4, 14, 0, 0, 0, 0, 0, []), none, none, some (.iload_n 1, 5, 0, 1, 0, 0, 0, 0, []), some (.bipush 8, 7, 0, 0, 0, 0, 8, 0, []), none, some (.if_icmp .ge 7, 10, 14, 0, 0, 0, 0, 0, []), none, none, some (.iconst 1, 11, 0, 0, 0, 0, 1, 0, []), some (.goto 4, 14, 15, 0, 0, 0, 0, 0, []), none, none, some (.iconst 0, 15, 0, 0, 0, 0, 0, 0, []), some (.ireturn, 16, 1, 0, 0, 0, 0, 0, [])]
def am_t_X6_isRow : am_T := [am_t_X6_isRow_0]
theorem am_q_X6_isRow_0 : am_okQ (am_ok1 am_mt yX6_isRow.cls yX6_isRow.name cX6_isRow 2 (some .boolean)) 0 am_t_X6_isRow_0 = true := by decide +kernel
theorem am_q_X6_isRow : am_okT (am_ok1 am_mt yX6_isRow.cls yX6_isRow.name cX6_isRow 2 (some .boolean)) 0 am_t_X6_isRow = true := am_okT_c am_q_X6_isRow_0 (rfl)
def am_m_X6_isRow : am_M := (yX6_isRow, cX6_isRow, 2, (some .boolean), 1, 351, 82, 349, 350, 1, am_t_X6_isRow)
theorem am_k_X6_isRow : am_okM am_mt am_m_X6_isRow := ⟨by decide +kernel, am_q_X6_isRow⟩
def am_t_X6_isMissing_0 : List (Option am_I) := [some (.aload_n 0, 1, 0, 0, 0, 0, 0, 0, []), some (.getfield 15, 4, 0, 6, 1, 109, 0, 0, []), none, none, some (.iload_n 1, 5, 0, 1, 0, 0, 0, 0, []), some (.iaload, 6, 0, 0, 0, 0, 0, 0, []), some (.iconst (-1), 7, 0, 0, 0, 0, (-1), 0, []), some (.if_icmp .ne 7, 10, 14, 0, 0, 0, 0, 0, []), none, none, some (.iconst 1, 11, 0, 0, 0, 0, 1, 0, []), some (.goto 4, 14, 15, 0, 0, 0, 0, 0, []), none, none, some (.iconst 0, 15, 0, 0, 0, 0, 0, 0, []), some (.ireturn, 16, 1, 0, 0, 0, 0, 0, [])]
def am_t_X6_isMissing : am_T := [am_t_X6_isMissing_0]
theorem am_q_X6_isMissing_0 : am_okQ (am_ok1 am_mt yX6_isMissing.cls yX6_isMissing.name cX6_isMissing 2 (some .boolean)) 0 am_t_X6_isMissing_0 = true := by decide +kernel
theorem am_q_X6_isMissing : am_okT (am_ok1 am_mt yX6_isMissing.cls yX6_isMissing.name cX6_isMissing 2 (some .boolean)) 0 am_t_X6_isMissing = true := am_okT_c am_q_X6_isMissing_0 (rfl)
def am_m_X6_isMissing : am_M := (yX6_isMissing, cX6_isMissing, 2, (some .boolean), 1, 373, 82, 371, 372, 1, am_t_X6_isMissing)
theorem am_k_X6_isMissing : am_okM am_mt am_m_X6_isMissing := ⟨by decide +kernel, am_q_X6_isMissing⟩
def am_t_X6_sameLane_0 : List (Option am_I) := [some (.aload_n 0, 1, 0, 0, 0, 0, 0, 0, []), some (.getfield 9, 4, 0, 6, 0, 108, 0, 0, []), none, none, some (.iload_n 1, 5, 0, 1, 0, 0, 0, 0, []), some (.iaload, 6, 0, 0, 0, 0, 0, 0, []), some (.aload_n 0, 7, 0, 0, 0, 0, 0, 0, []), some (.getfield 9, 10, 0, 6, 0, 108, 0, 0, []), none, none, some (.iload_n 2, 11, 0, 2, 0, 0, 0, 0, []), some (.iaload, 12, 0, 0, 0, 0, 0, 0, []), some (.if_icmp .ne 7, 15, 19, 0, 0, 0, 0, 0, []), none, none, some (.iconst 1, 16, 0, 0, 0, 0, 1, 0, [])]
def am_t_X6_sameLane_1 : List (Option am_I) := [some (.goto 4, 19, 20, 0, 0, 0, 0, 0, []), none, none, some (.iconst 0, 20, 0, 0, 0, 0, 0, 0, []), some (.ireturn, 21, 1, 0, 0, 0, 0, 0, [])]
def am_t_X6_sameLane : am_T := [am_t_X6_sameLane_0, am_t_X6_sameLane_1]
theorem am_q_X6_sameLane_0 : am_okQ (am_ok1 am_mt yX6_sameLane.cls yX6_sameLane.name cX6_sameLane 3 (some .boolean)) 0 am_t_X6_sameLane_0 = true := by decide +kernel
theorem am_q_X6_sameLane_1 : am_okQ (am_ok1 am_mt yX6_sameLane.cls yX6_sameLane.name cX6_sameLane 3 (some .boolean)) 1 am_t_X6_sameLane_1 = true := by decide +kernel
theorem am_q_X6_sameLane : am_okT (am_ok1 am_mt yX6_sameLane.cls yX6_sameLane.name cX6_sameLane 3 (some .boolean)) 0 am_t_X6_sameLane = true := am_okT_c am_q_X6_sameLane_0 (am_okT_c am_q_X6_sameLane_1 (rfl))
def am_m_X6_sameLane : am_M := (yX6_sameLane, cX6_sameLane, 3, (some .boolean), 1, 389, 82, 387, 388, 2, am_t_X6_sameLane)
theorem am_k_X6_sameLane : am_okM am_mt am_m_X6_sameLane := ⟨by decide +kernel, am_q_X6_sameLane⟩
def am_t_X6_hasPlaces_0 : List (Option am_I) := [some (.aload_n 0, 1, 0, 0, 0, 0, 0, 0, []), some (.getfield 15, 4, 0, 6, 1, 109, 0, 0, []), none, none, some (.iload_n 1, 5, 0, 1, 0, 0, 0, 0, []), some (.iaload, 6, 0, 0, 0, 0, 0, 0, []), some (.istore 4, 8, 0, 4, 0, 0, 0, 0, []), none, some (.iload_n 2, 9, 0, 2, 0, 0, 0, 0, []), some (.ifCond .lt 25, 12, 34, 0, 0, 0, 0, 0, []), none, none, some (.iload_n 3, 13, 0, 3, 0, 0, 0, 0, []), some (.ifCond .lt 21, 16, 34, 0, 0, 0, 0, 0, []), none, none]
def am_t_X6_hasPlaces_1 : List (Option am_I) := [some (.iload_n 2, 17, 0, 2, 0, 0, 0, 0, []), some (.iload 4, 19, 0, 4, 0, 0, 0, 0, []), none, some (.if_icmp .gt 15, 22, 34, 0, 0, 0, 0, 0, []), none, none, some (.iload_n 3, 23, 0, 3, 0, 0, 0, 0, []), some (.iload 4, 25, 0, 4, 0, 0, 0, 0, []), none, some (.iload_n 2, 26, 0, 2, 0, 0, 0, 0, []), some (.isub, 27, 0, 0, 0, 0, 0, 0, []), some (.if_icmp .gt 7, 30, 34, 0, 0, 0, 0, 0, []), none, none, some (.iconst 1, 31, 0, 0, 0, 0, 1, 0, []), some (.goto 4, 34, 35, 0, 0, 0, 0, 0, [])]
def am_t_X6_hasPlaces_2 : List (Option am_I) := [none, none, some (.iconst 0, 35, 0, 0, 0, 0, 0, 0, []), some (.ireturn, 36, 1, 0, 0, 0, 0, 0, [])]
def am_t_X6_hasPlaces : am_T := [am_t_X6_hasPlaces_0, am_t_X6_hasPlaces_1, am_t_X6_hasPlaces_2]
theorem am_q_X6_hasPlaces_0 : am_okQ (am_ok1 am_mt yX6_hasPlaces.cls yX6_hasPlaces.name cX6_hasPlaces 5 (some .boolean)) 0 am_t_X6_hasPlaces_0 = true := by decide +kernel
theorem am_q_X6_hasPlaces_1 : am_okQ (am_ok1 am_mt yX6_hasPlaces.cls yX6_hasPlaces.name cX6_hasPlaces 5 (some .boolean)) 1 am_t_X6_hasPlaces_1 = true := by decide +kernel
theorem am_q_X6_hasPlaces_2 : am_okQ (am_ok1 am_mt yX6_hasPlaces.cls yX6_hasPlaces.name cX6_hasPlaces 5 (some .boolean)) 2 am_t_X6_hasPlaces_2 = true := by decide +kernel
theorem am_q_X6_hasPlaces : am_okT (am_ok1 am_mt yX6_hasPlaces.cls yX6_hasPlaces.name cX6_hasPlaces 5 (some .boolean)) 0 am_t_X6_hasPlaces = true := am_okT_c am_q_X6_hasPlaces_0 (am_okT_c am_q_X6_hasPlaces_1 (am_okT_c am_q_X6_hasPlaces_2 (rfl)))
def am_m_X6_hasPlaces : am_M := (yX6_hasPlaces, cX6_hasPlaces, 5, (some .boolean), 1, 377, 82, 375, 376, 3, am_t_X6_hasPlaces)
theorem am_k_X6_hasPlaces : am_okM am_mt am_m_X6_hasPlaces := ⟨by decide +kernel, am_q_X6_hasPlaces⟩
def am_t_X6_present_0 : List (Option am_I) := [some (.iconst 0, 1, 0, 0, 0, 0, 0, 0, []), some (.istore_n 1, 2, 0, 1, 0, 0, 0, 0, []), some (.iconst 0, 3, 0, 0, 0, 0, 0, 0, []), some (.istore_n 2, 4, 0, 2, 0, 0, 0, 0, []), some (.iload_n 2, 5, 0, 2, 0, 0, 0, 0, []), some (.bipush 8, 7, 0, 0, 0, 0, 8, 0, []), none, some (.if_icmp .ge 22, 10, 29, 0, 0, 0, 0, 0, []), none, none, some (.aload_n 0, 11, 0, 0, 0, 0, 0, 0, []), some (.getfield 15, 14, 0, 6, 1, 109, 0, 0, []), none, none, some (.iload_n 2, 15, 0, 2, 0, 0, 0, 0, []), some (.iaload, 16, 0, 0, 0, 0, 0, 0, [])]
def am_t_X6_present_1 : List (Option am_I) := [some (.iconst (-1), 17, 0, 0, 0, 0, (-1), 0, []), some (.if_icmp .eq 6, 20, 23, 0, 0, 0, 0, 0, []), none, none, some (.iinc 1 1, 23, 0, 1, 0, 0, 1, 0, []), none, none, some (.iinc 2 1, 26, 0, 2, 0, 0, 1, 0, []), none, none, some (.goto (-22), 29, 4, 0, 0, 0, 0, 0, []), none, none, some (.iload_n 1, 30, 0, 1, 0, 0, 0, 0, []), some (.ireturn, 31, 0, 0, 0, 0, 0, 0, [])]
def am_t_X6_present : am_T := [am_t_X6_present_0, am_t_X6_present_1]
theorem am_q_X6_present_0 : am_okQ (am_ok1 am_mt yX6_present.cls yX6_present.name cX6_present 3 (some .int)) 0 am_t_X6_present_0 = true := by decide +kernel
theorem am_q_X6_present_1 : am_okQ (am_ok1 am_mt yX6_present.cls yX6_present.name cX6_present 3 (some .int)) 1 am_t_X6_present_1 = true := by decide +kernel
theorem am_q_X6_present : am_okT (am_ok1 am_mt yX6_present.cls yX6_present.name cX6_present 3 (some .int)) 0 am_t_X6_present = true := am_okT_c am_q_X6_present_0 (am_okT_c am_q_X6_present_1 (rfl))
def am_m_X6_present : am_M := (yX6_present, cX6_present, 3, (some .int), 1, 888, 82, 886, 887, 0, am_t_X6_present)
theorem am_k_X6_present : am_okM am_mt am_m_X6_present := ⟨by decide +kernel, am_q_X6_present⟩
def am_ms2 : List am_M := [am_m_X3_weighsSet, am_m_X3_needToday, am_m_X3_isCarriedBy, am_m_X3_isCarriedByAll, am_m_X3_passDay, am_m_X3_passDays, am_m_X4_init, am_m_X4_breathsOf, am_m_X4_sortsOf, am_m_X4_costsOf, am_m_X4_comesAbout, am_m_X5_init, am_m_X5_bestDays, am_m_X5_tryDay, am_m_X5_closePlan, am_m_X5_takePath, am_m_X5_keepBreaths, am_m_X5_giveBreathsBack, am_m_X6_init, am_m_X6_isRow, am_m_X6_isMissing, am_m_X6_sameLane, am_m_X6_hasPlaces, am_m_X6_present]
theorem am_ms2_ok : ∀ M ∈ am_ms2, am_okM am_mt M := List.forall_mem_cons.mpr ⟨am_k_X3_weighsSet, List.forall_mem_cons.mpr ⟨am_k_X3_needToday, List.forall_mem_cons.mpr ⟨am_k_X3_isCarriedBy, List.forall_mem_cons.mpr ⟨am_k_X3_isCarriedByAll, List.forall_mem_cons.mpr ⟨am_k_X3_passDay, List.forall_mem_cons.mpr ⟨am_k_X3_passDays, List.forall_mem_cons.mpr ⟨am_k_X4_init, List.forall_mem_cons.mpr ⟨am_k_X4_breathsOf, List.forall_mem_cons.mpr ⟨am_k_X4_sortsOf, List.forall_mem_cons.mpr ⟨am_k_X4_costsOf, List.forall_mem_cons.mpr ⟨am_k_X4_comesAbout, List.forall_mem_cons.mpr ⟨am_k_X5_init, List.forall_mem_cons.mpr ⟨am_k_X5_bestDays, List.forall_mem_cons.mpr ⟨am_k_X5_tryDay, List.forall_mem_cons.mpr ⟨am_k_X5_closePlan, List.forall_mem_cons.mpr ⟨am_k_X5_takePath, List.forall_mem_cons.mpr ⟨am_k_X5_keepBreaths, List.forall_mem_cons.mpr ⟨am_k_X5_giveBreathsBack, List.forall_mem_cons.mpr ⟨am_k_X6_init, List.forall_mem_cons.mpr ⟨am_k_X6_isRow, List.forall_mem_cons.mpr ⟨am_k_X6_isMissing, List.forall_mem_cons.mpr ⟨am_k_X6_sameLane, List.forall_mem_cons.mpr ⟨am_k_X6_hasPlaces, List.forall_mem_cons.mpr ⟨am_k_X6_present, fun _ h => absurd h List.not_mem_nil⟩⟩⟩⟩⟩⟩⟩⟩⟩⟩⟩⟩⟩⟩⟩⟩⟩⟩⟩⟩⟩⟩⟩⟩
end
section
def am_t_X6_make_0 : List (Option am_I) := [some (.aload_n 0, 1, 0, 0, 0, 0, 0, 0, []), some (.getfield 9, 4, 0, 6, 0, 108, 0, 0, []), none, none, some (.iload_n 1, 5, 0, 1, 0, 0, 0, 0, []), some (.iload_n 2, 6, 0, 2, 0, 0, 0, 0, []), some (.iastore, 7, 0, 0, 0, 0, 0, 0, []), some (.aload_n 0, 8, 0, 0, 0, 0, 0, 0, []), some (.getfield 15, 11, 0, 6, 1, 109, 0, 0, []), none, none, some (.iload_n 1, 12, 0, 1, 0, 0, 0, 0, []), some (.iload_n 3, 13, 0, 3, 0, 0, 0, 0, []), some (.iastore, 14, 0, 0, 0, 0, 0, 0, []), some (.iconst 0, 15, 0, 0, 0, 0, 0, 0, []), some (.istore 4, 17, 0, 4, 0, 0, 0, 0, [])]
def am_t_X6_make_1 : List (Option am_I) := [none, some (.iload 4, 19, 0, 4, 0, 0, 0, 0, []), none, some (.bipush 40, 21, 0, 0, 0, 0, 40, 0, []), none, some (.if_icmp .ge 22, 24, 43, 0, 0, 0, 0, 0, []), none, none, some (.aload_n 0, 25, 0, 0, 0, 0, 0, 0, []), some (.getfield 18, 28, 0, 6, 2, 110, 0, 0, []), none, none, some (.iload_n 1, 29, 0, 1, 0, 0, 0, 0, []), some (.bipush 40, 31, 0, 0, 0, 0, 40, 0, []), none, some (.imul, 32, 0, 0, 0, 0, 0, 0, [])]
def am_t_X6_make_2 : List (Option am_I) := [some (.iload 4, 34, 0, 4, 0, 0, 0, 0, []), none, some (.iadd, 35, 0, 0, 0, 0, 0, 0, []), some (.iconst 0, 36, 0, 0, 0, 0, 0, 0, []), some (.iastore, 37, 0, 0, 0, 0, 0, 0, []), some (.iinc 4 1, 40, 0, 4, 0, 0, 1, 0, []), none, none, some (.goto (-23), 43, 17, 0, 0, 0, 0, 0, []), none, none, some (.return_, 44, 0, 0, 0, 0, 0, 0, [])]
def am_t_X6_make : am_T := [am_t_X6_make_0, am_t_X6_make_1, am_t_X6_make_2]
theorem am_q_X6_make_0 : am_okQ (am_ok1 am_mt yX6_make.cls yX6_make.name cX6_make 5 none) 0 am_t_X6_make_0 = true := by decide +kernel
theorem am_q_X6_make_1 : am_okQ (am_ok1 am_mt yX6_make.cls yX6_make.name cX6_make 5 none) 1 am_t_X6_make_1 = true := by decide +kernel
theorem am_q_X6_make_2 : am_okQ (am_ok1 am_mt yX6_make.cls yX6_make.name cX6_make 5 none) 2 am_t_X6_make_2 = true := by decide +kernel
theorem am_q_X6_make : am_okT (am_ok1 am_mt yX6_make.cls yX6_make.name cX6_make 5 none) 0 am_t_X6_make = true := am_okT_c am_q_X6_make_0 (am_okT_c am_q_X6_make_1 (am_okT_c am_q_X6_make_2 (rfl)))
def am_m_X6_make : am_M := (yX6_make, cX6_make, 5, none, 1, 361, 82, 359, 360, 3, am_t_X6_make)
theorem am_k_X6_make : am_okM am_mt am_m_X6_make := ⟨by decide +kernel, am_q_X6_make⟩
def am_t_X6_item_0 : List (Option am_I) := [some (.aload_n 0, 1, 0, 0, 0, 0, 0, 0, []), some (.getfield 18, 4, 0, 6, 2, 110, 0, 0, []), none, none, some (.iload_n 1, 5, 0, 1, 0, 0, 0, 0, []), some (.bipush 40, 7, 0, 0, 0, 0, 40, 0, []), none, some (.imul, 8, 0, 0, 0, 0, 0, 0, []), some (.iload_n 2, 9, 0, 2, 0, 0, 0, 0, []), some (.iadd, 10, 0, 0, 0, 0, 0, 0, []), some (.iaload, 11, 0, 0, 0, 0, 0, 0, []), some (.ireturn, 12, 0, 0, 0, 0, 0, 0, [])]
def am_t_X6_item : am_T := [am_t_X6_item_0]
theorem am_q_X6_item_0 : am_okQ (am_ok1 am_mt yX6_item.cls yX6_item.name cX6_item 3 (some .int)) 0 am_t_X6_item_0 = true := by decide +kernel
theorem am_q_X6_item : am_okT (am_ok1 am_mt yX6_item.cls yX6_item.name cX6_item 3 (some .int)) 0 am_t_X6_item = true := am_okT_c am_q_X6_item_0 (rfl)
def am_m_X6_item : am_M := (yX6_item, cX6_item, 3, (some .int), 1, 744, 82, 742, 743, 2, am_t_X6_item)
theorem am_k_X6_item : am_okM am_mt am_m_X6_item := ⟨by decide +kernel, am_q_X6_item⟩
def am_t_X6_put_0 : List (Option am_I) := [some (.iload_n 3, 1, 0, 3, 0, 0, 0, 0, []), some (.istore 4, 3, 0, 4, 0, 0, 0, 0, []), none, some (.aload_n 0, 4, 0, 0, 0, 0, 0, 0, []), some (.getfield 9, 7, 0, 6, 0, 108, 0, 0, []), none, none, some (.iload_n 1, 8, 0, 1, 0, 0, 0, 0, []), some (.iaload, 9, 0, 0, 0, 0, 0, 0, []), some (.ifCond .ne 10, 12, 19, 0, 0, 0, 0, 0, []), none, none, some (.iload_n 3, 13, 0, 3, 0, 0, 0, 0, []), some (.i2b, 14, 0, 0, 0, 0, 0, 0, []), some (.istore 4, 16, 0, 4, 0, 0, 0, 0, []), none]
def am_t_X6_put_1 : List (Option am_I) := [some (.goto 17, 19, 33, 0, 0, 0, 0, 0, []), none, none, some (.aload_n 0, 20, 0, 0, 0, 0, 0, 0, []), some (.getfield 9, 23, 0, 6, 0, 108, 0, 0, []), none, none, some (.iload_n 1, 24, 0, 1, 0, 0, 0, 0, []), some (.iaload, 25, 0, 0, 0, 0, 0, 0, []), some (.iconst 1, 26, 0, 0, 0, 0, 1, 0, []), some (.if_icmp .ne 7, 29, 33, 0, 0, 0, 0, 0, []), none, none, some (.iload_n 3, 30, 0, 3, 0, 0, 0, 0, []), some (.i2s, 31, 0, 0, 0, 0, 0, 0, []), some (.istore 4, 33, 0, 4, 0, 0, 0, 0, [])]
def am_t_X6_put_2 : List (Option am_I) := [none, some (.aload_n 0, 34, 0, 0, 0, 0, 0, 0, []), some (.getfield 18, 37, 0, 6, 2, 110, 0, 0, []), none, none, some (.iload_n 1, 38, 0, 1, 0, 0, 0, 0, []), some (.bipush 40, 40, 0, 0, 0, 0, 40, 0, []), none, some (.imul, 41, 0, 0, 0, 0, 0, 0, []), some (.iload_n 2, 42, 0, 2, 0, 0, 0, 0, []), some (.iadd, 43, 0, 0, 0, 0, 0, 0, []), some (.iload 4, 45, 0, 4, 0, 0, 0, 0, []), none, some (.iastore, 46, 0, 0, 0, 0, 0, 0, []), some (.iload 4, 48, 0, 4, 0, 0, 0, 0, []), none]
def am_t_X6_put_3 : List (Option am_I) := [some (.ireturn, 49, 0, 0, 0, 0, 0, 0, [])]
def am_t_X6_put : am_T := [am_t_X6_put_0, am_t_X6_put_1, am_t_X6_put_2, am_t_X6_put_3]
theorem am_q_X6_put_0 : am_okQ (am_ok1 am_mt yX6_put.cls yX6_put.name cX6_put 5 (some .int)) 0 am_t_X6_put_0 = true := by decide +kernel
theorem am_q_X6_put_1 : am_okQ (am_ok1 am_mt yX6_put.cls yX6_put.name cX6_put 5 (some .int)) 1 am_t_X6_put_1 = true := by decide +kernel
theorem am_q_X6_put_2 : am_okQ (am_ok1 am_mt yX6_put.cls yX6_put.name cX6_put 5 (some .int)) 2 am_t_X6_put_2 = true := by decide +kernel
theorem am_q_X6_put_3 : am_okQ (am_ok1 am_mt yX6_put.cls yX6_put.name cX6_put 5 (some .int)) 3 am_t_X6_put_3 = true := by decide +kernel
theorem am_q_X6_put : am_okT (am_ok1 am_mt yX6_put.cls yX6_put.name cX6_put 5 (some .int)) 0 am_t_X6_put = true := am_okT_c am_q_X6_put_0 (am_okT_c am_q_X6_put_1 (am_okT_c am_q_X6_put_2 (am_okT_c am_q_X6_put_3 (rfl))))
def am_m_X6_put : am_M := (yX6_put, cX6_put, 5, (some .int), 1, 381, 82, 379, 380, 3, am_t_X6_put)
theorem am_k_X6_put : am_okM am_mt am_m_X6_put := ⟨by decide +kernel, am_q_X6_put⟩
def am_t_X6_move_0 : List (Option am_I) := [some (.aload_n 0, 1, 0, 0, 0, 0, 0, 0, []), some (.getfield 18, 4, 0, 6, 2, 110, 0, 0, []), none, none, some (.iload_n 1, 5, 0, 1, 0, 0, 0, 0, []), some (.bipush 40, 7, 0, 0, 0, 0, 40, 0, []), none, some (.imul, 8, 0, 0, 0, 0, 0, 0, []), some (.iload_n 2, 9, 0, 2, 0, 0, 0, 0, []), some (.iadd, 10, 0, 0, 0, 0, 0, 0, []), some (.aload_n 0, 11, 0, 0, 0, 0, 0, 0, []), some (.getfield 18, 14, 0, 6, 2, 110, 0, 0, []), none, none, some (.iload_n 3, 15, 0, 3, 0, 0, 0, 0, []), some (.bipush 40, 17, 0, 0, 0, 0, 40, 0, [])]
def am_t_X6_move_1 : List (Option am_I) := [none, some (.imul, 18, 0, 0, 0, 0, 0, 0, []), some (.iload 4, 20, 0, 4, 0, 0, 0, 0, []), none, some (.iadd, 21, 0, 0, 0, 0, 0, 0, []), some (.iload 5, 23, 0, 5, 0, 0, 0, 0, []), none, some (.invokestatic 21, 26, 2, 0, 0, 394, 0, 0, []), none, none, some (.return_, 27, 0, 0, 0, 0, 0, 0, [])]
def am_t_X6_move : am_T := [am_t_X6_move_0, am_t_X6_move_1]
theorem am_q_X6_move_0 : am_okQ (am_ok1 am_mt yX6_move.cls yX6_move.name cX6_move 6 none) 0 am_t_X6_move_0 = true := by decide +kernel
theorem am_q_X6_move_1 : am_okQ (am_ok1 am_mt yX6_move.cls yX6_move.name cX6_move 6 none) 1 am_t_X6_move_1 = true := by decide +kernel
theorem am_q_X6_move : am_okT (am_ok1 am_mt yX6_move.cls yX6_move.name cX6_move 6 none) 0 am_t_X6_move = true := am_okT_c am_q_X6_move_0 (am_okT_c am_q_X6_move_1 (rfl))
def am_m_X6_move : am_M := (yX6_move, cX6_move, 6, none, 1, 393, 82, 391, 392, 5, am_t_X6_move)
theorem am_k_X6_move : am_okM am_mt am_m_X6_move := ⟨by decide +kernel, am_q_X6_move⟩
def am_t_X6_lose_0 : List (Option am_I) := [some (.aload_n 0, 1, 0, 0, 0, 0, 0, 0, []), some (.getfield 15, 4, 0, 6, 1, 109, 0, 0, []), none, none, some (.iload_n 1, 5, 0, 1, 0, 0, 0, 0, []), some (.iaload, 6, 0, 0, 0, 0, 0, 0, []), some (.istore_n 2, 7, 0, 2, 0, 0, 0, 0, []), some (.aload_n 0, 8, 0, 0, 0, 0, 0, 0, []), some (.getfield 15, 11, 0, 6, 1, 109, 0, 0, []), none, none, some (.iload_n 1, 12, 0, 1, 0, 0, 0, 0, []), some (.iconst (-1), 13, 0, 0, 0, 0, (-1), 0, []), some (.iastore, 14, 0, 0, 0, 0, 0, 0, []), some (.iload_n 2, 15, 0, 2, 0, 0, 0, 0, []), some (.ireturn, 16, 0, 0, 0, 0, 0, 0, [])]
def am_t_X6_lose : am_T := [am_t_X6_lose_0]
theorem am_q_X6_lose_0 : am_okQ (am_ok1 am_mt yX6_lose.cls yX6_lose.name cX6_lose 3 (some .int)) 0 am_t_X6_lose_0 = true := by decide +kernel
theorem am_q_X6_lose : am_okT (am_ok1 am_mt yX6_lose.cls yX6_lose.name cX6_lose 3 (some .int)) 0 am_t_X6_lose = true := am_okT_c am_q_X6_lose_0 (rfl)
def am_m_X6_lose : am_M := (yX6_lose, cX6_lose, 3, (some .int), 1, 404, 82, 402, 403, 1, am_t_X6_lose)
theorem am_k_X6_lose : am_okM am_mt am_m_X6_lose := ⟨by decide +kernel, am_q_X6_lose⟩
def am_t_X7_init_0 : List (Option am_I) := [some (.aload_n 0, 1, 0, 0, 0, 0, 0, 0, []), some (.invokespecial 3, 4, 2, 0, 0, 191, 0, 0, []), none, none, some (.aload_n 0, 5, 0, 0, 0, 0, 0, 0, []), some (.bipush 100, 7, 0, 0, 0, 0, 100, 0, []), none, some (.newarray .int, 9, 0, 0, 100, 0, 0, 0, []), none, some (.putfield 9, 12, 2, 7, 0, 192, 0, 0, []), none, none, some (.return_, 13, 0, 0, 0, 0, 0, 0, [])]
def am_t_X7_init : am_T := [am_t_X7_init_0]
theorem am_q_X7_init_0 : am_okQ (am_ok1 am_mt yX7_init.cls yX7_init.name cX7_init 1 none) 0 am_t_X7_init_0 = true := by decide +kernel
theorem am_q_X7_init : am_okT (am_ok1 am_mt yX7_init.cls yX7_init.name cX7_init 1 none) 0 am_t_X7_init = true := am_okT_c am_q_X7_init_0 (rfl)
def am_m_X7_init : am_M := (yX7_init, cX7_init, 1, none, 2, 190, 84, 189, 0, 0, am_t_X7_init)
theorem am_k_X7_init : am_okM am_mt am_m_X7_init := ⟨by decide +kernel, am_q_X7_init⟩
def am_t_X7_isFull_0 : List (Option am_I) := [some (.aload_n 0, 1, 0, 0, 0, 0, 0, 0, []), some (.getfield 15, 4, 0, 7, 1, 193, 0, 0, []), none, none, some (.bipush 100, 6, 0, 0, 0, 0, 100, 0, []), none, some (.if_icmp .lt 7, 9, 13, 0, 0, 0, 0, 0, []), none, none, some (.iconst 1, 10, 0, 0, 0, 0, 1, 0, []), some (.goto 4, 13, 14, 0, 0, 0, 0, 0, []), none, none, some (.iconst 0, 14, 0, 0, 0, 0, 0, 0, []), some (.ireturn, 15, 1, 0, 0, 0, 0, 0, [])]
def am_t_X7_isFull : am_T := [am_t_X7_isFull_0]
theorem am_q_X7_isFull_0 : am_okQ (am_ok1 am_mt yX7_isFull.cls yX7_isFull.name cX7_isFull 1 (some .boolean)) 0 am_t_X7_isFull_0 = true := by decide +kernel
theorem am_q_X7_isFull : am_okT (am_ok1 am_mt yX7_isFull.cls yX7_isFull.name cX7_isFull 1 (some .boolean)) 0 am_t_X7_isFull = true := am_okT_c am_q_X7_isFull_0 (rfl)
def am_m_X7_isFull : am_M := (yX7_isFull, cX7_isFull, 1, (some .boolean), 1, 412, 84, 410, 411, 0, am_t_X7_isFull)
theorem am_k_X7_isFull : am_okM am_mt am_m_X7_isFull := ⟨by decide +kernel, am_q_X7_isFull⟩
def am_t_X7_append_0 : List (Option am_I) := [some (.aload_n 0, 1, 0, 0, 0, 0, 0, 0, []), some (.getfield 15, 4, 0, 7, 1, 193, 0, 0, []), none, none, some (.bipush 100, 6, 0, 0, 0, 0, 100, 0, []), none, some (.if_icmp .ge 23, 9, 29, 0, 0, 0, 0, 0, []), none, none, some (.aload_n 0, 10, 0, 0, 0, 0, 0, 0, []), some (.getfield 9, 13, 0, 7, 0, 192, 0, 0, []), none, none, some (.aload_n 0, 14, 0, 0, 0, 0, 0, 0, []), some (.getfield 15, 17, 0, 7, 1, 193, 0, 0, []), none]
def am_t_X7_append_1 : List (Option am_I) := [none, some (.iload_n 1, 18, 0, 1, 0, 0, 0, 0, []), some (.iastore, 19, 0, 0, 0, 0, 0, 0, []), some (.aload_n 0, 20, 0, 0, 0, 0, 0, 0, []), some (.dup, 21, 0, 0, 0, 0, 0, 0, []), some (.getfield 15, 24, 0, 7, 1, 193, 0, 0, []), none, none, some (.iconst 1, 25, 0, 0, 0, 0, 1, 0, []), some (.iadd, 26, 0, 0, 0, 0, 0, 0, []), some (.putfield 15, 29, 0, 7, 1, 193, 0, 0, []), none, none, some (.aload_n 0, 30, 0, 0, 0, 0, 0, 0, []), some (.getfield 15, 33, 0, 7, 1, 193, 0, 0, []), none]
def am_t_X7_append_2 : List (Option am_I) := [none, some (.ireturn, 34, 0, 0, 0, 0, 0, 0, [])]
def am_t_X7_append : am_T := [am_t_X7_append_0, am_t_X7_append_1, am_t_X7_append_2]
theorem am_q_X7_append_0 : am_okQ (am_ok1 am_mt yX7_append.cls yX7_append.name cX7_append 2 (some .int)) 0 am_t_X7_append_0 = true := by decide +kernel
theorem am_q_X7_append_1 : am_okQ (am_ok1 am_mt yX7_append.cls yX7_append.name cX7_append 2 (some .int)) 1 am_t_X7_append_1 = true := by decide +kernel
theorem am_q_X7_append_2 : am_okQ (am_ok1 am_mt yX7_append.cls yX7_append.name cX7_append 2 (some .int)) 2 am_t_X7_append_2 = true := by decide +kernel
theorem am_q_X7_append : am_okT (am_ok1 am_mt yX7_append.cls yX7_append.name cX7_append 2 (some .int)) 0 am_t_X7_append = true := am_okT_c am_q_X7_append_0 (am_okT_c am_q_X7_append_1 (am_okT_c am_q_X7_append_2 (rfl)))
def am_m_X7_append : am_M := (yX7_append, cX7_append, 2, (some .int), 1, 417, 84, 415, 416, 1, am_t_X7_append)
theorem am_k_X7_append : am_okM am_mt am_m_X7_append := ⟨by decide +kernel, am_q_X7_append⟩
def am_t_X7_empty_0 : List (Option am_I) := [some (.aload_n 0, 1, 0, 0, 0, 0, 0, 0, []), some (.iconst 0, 2, 0, 0, 0, 0, 0, 0, []), some (.putfield 15, 5, 0, 7, 1, 193, 0, 0, []), none, none, some (.return_, 6, 0, 0, 0, 0, 0, 0, [])]
def am_t_X7_empty : am_T := [am_t_X7_empty_0]
theorem am_q_X7_empty_0 : am_okQ (am_ok1 am_mt yX7_empty.cls yX7_empty.name cX7_empty 1 none) 0 am_t_X7_empty_0 = true := by decide +kernel
theorem am_q_X7_empty : am_okT (am_ok1 am_mt yX7_empty.cls yX7_empty.name cX7_empty 1 none) 0 am_t_X7_empty = true := am_okT_c am_q_X7_empty_0 (rfl)
def am_m_X7_empty : am_M := (yX7_empty, cX7_empty, 1, none, 1, 483, 84, 481, 482, 0, am_t_X7_empty)
theorem am_k_X7_empty : am_okM am_mt am_m_X7_empty := ⟨by decide +kernel, am_q_X7_empty⟩
def am_t_X7_readInto_0 : List (Option am_I) := [some (.aload_n 0, 1, 0, 0, 0, 0, 0, 0, []), some (.iconst 0, 2, 0, 0, 0, 0, 0, 0, []), some (.putfield 19, 5, 0, 7, 2, 195, 0, 0, []), none, none, some (.aload_n 0, 6, 0, 0, 0, 0, 0, 0, []), some (.iconst 0, 7, 0, 0, 0, 0, 0, 0, []), some (.putfield 22, 10, 0, 7, 3, 197, 0, 0, []), none, none, some (.aload_n 1, 11, 0, 1, 0, 0, 0, 0, []), some (.invokevirtual 25, 14, 3, 37, 0, 426, 0, 0, []), none, none, some (.aload_n 0, 15, 0, 0, 0, 0, 0, 0, []), some (.aload_n 1, 16, 0, 1, 0, 0, 0, 0, [])]
def am_t_X7_readInto_1 : List (Option am_I) := [some (.invokevirtual 30, 19, 7, 81, 1, 430, 0, 0, []), none, none, some (.aload_n 0, 20, 0, 0, 0, 0, 0, 0, []), some (.aload_n 1, 21, 0, 1, 0, 0, 0, 0, []), some (.invokevirtual 34, 24, 7, 82, 1, 453, 0, 0, []), none, none, some (.aload_n 0, 25, 0, 0, 0, 0, 0, 0, []), some (.aload_n 1, 26, 0, 1, 0, 0, 0, 0, []), some (.invokevirtual 37, 29, 7, 84, 1, 465, 0, 0, []), none, none, some (.aload_n 1, 30, 0, 1, 0, 0, 0, 0, []), some (.aload_n 0, 31, 0, 0, 0, 0, 0, 0, []), some (.getfield 22, 34, 0, 7, 3, 197, 0, 0, [])]
def am_t_X7_readInto_2 : List (Option am_I) := [none, none, some (.ifCond .ne 7, 37, 41, 0, 0, 0, 0, 0, []), none, none, some (.iconst 1, 38, 0, 0, 0, 0, 1, 0, []), some (.goto 4, 41, 42, 0, 0, 0, 0, 0, []), none, none, some (.iconst 0, 42, 0, 0, 0, 0, 0, 0, []), some (.putfield 40, 45, 1, 3, 0, 126, 0, 0, []), none, none, some (.return_, 46, 0, 0, 0, 0, 0, 0, [])]
def am_t_X7_readInto : am_T := [am_t_X7_readInto_0, am_t_X7_readInto_1, am_t_X7_readInto_2]
theorem am_q_X7_readInto_0 : am_okQ (am_ok1 am_mt yX7_readInto.cls yX7_readInto.name cX7_readInto 2 none) 0 am_t_X7_readInto_0 = true := by decide +kernel
theorem am_q_X7_readInto_1 : am_okQ (am_ok1 am_mt yX7_readInto.cls yX7_readInto.name cX7_readInto 2 none) 1 am_t_X7_readInto_1 = true := by decide +kernel
theorem am_q_X7_readInto_2 : am_okQ (am_ok1 am_mt yX7_readInto.cls yX7_readInto.name cX7_readInto 2 none) 2 am_t_X7_readInto_2 = true := by decide +kernel
theorem am_q_X7_readInto : am_okT (am_ok1 am_mt yX7_readInto.cls yX7_readInto.name cX7_readInto 2 none) 0 am_t_X7_readInto = true := am_okT_c am_q_X7_readInto_0 (am_okT_c am_q_X7_readInto_1 (am_okT_c am_q_X7_readInto_2 (rfl)))
def am_m_X7_readInto : am_M := (yX7_readInto, cX7_readInto, 2, none, 1, 425, 84, 423, 424, 1, am_t_X7_readInto)
theorem am_k_X7_readInto : am_okM am_mt am_m_X7_readInto := ⟨by decide +kernel, am_q_X7_readInto⟩
def am_t_X7_readLaw_0 : List (Option am_I) := [some (.aload_n 0, 1, 0, 0, 0, 0, 0, 0, []), some (.bipush 104, 3, 0, 0, 0, 0, 104, 0, []), none, some (.invokevirtual 44, 6, 7, 87, 1, 434, 0, 0, []), none, none, some (.aload_n 1, 7, 0, 1, 0, 0, 0, 0, []), some (.aload_n 0, 8, 0, 0, 0, 0, 0, 0, []), some (.iconst 1, 9, 0, 0, 0, 0, 1, 0, []), some (.bipush 9, 11, 0, 0, 0, 0, 9, 0, []), none, some (.invokevirtual 48, 14, 7, 88, 2, 442, 0, 0, []), none, none, some (.putfield 52, 17, 0, 3, 1, 130, 0, 0, []), none]
def am_t_X7_readLaw_1 : List (Option am_I) := [none, some (.aload_n 0, 18, 0, 0, 0, 0, 0, 0, []), some (.bipush 59, 20, 0, 0, 0, 0, 59, 0, []), none, some (.invokevirtual 44, 23, 7, 87, 1, 434, 0, 0, []), none, none, some (.return_, 24, 0, 0, 0, 0, 0, 0, [])]
def am_t_X7_readLaw : am_T := [am_t_X7_readLaw_0, am_t_X7_readLaw_1]
theorem am_q_X7_readLaw_0 : am_okQ (am_ok1 am_mt yX7_readLaw.cls yX7_readLaw.name cX7_readLaw 2 none) 0 am_t_X7_readLaw_0 = true := by decide +kernel
theorem am_q_X7_readLaw_1 : am_okQ (am_ok1 am_mt yX7_readLaw.cls yX7_readLaw.name cX7_readLaw 2 none) 1 am_t_X7_readLaw_1 = true := by decide +kernel
theorem am_q_X7_readLaw : am_okT (am_ok1 am_mt yX7_readLaw.cls yX7_readLaw.name cX7_readLaw 2 none) 0 am_t_X7_readLaw = true := am_okT_c am_q_X7_readLaw_0 (am_okT_c am_q_X7_readLaw_1 (rfl))
def am_m_X7_readLaw : am_M := (yX7_readLaw, cX7_readLaw, 2, none, 1, 433, 84, 432, 2, 1, am_t_X7_readLaw)
theorem am_k_X7_readLaw : am_okM am_mt am_m_X7_readLaw := ⟨by decide +kernel, am_q_X7_readLaw⟩
def am_t_X7_readMotions_0 : List (Option am_I) := [some (.aload_n 0, 1, 0, 0, 0, 0, 0, 0, []), some (.aload_n 1, 2, 0, 1, 0, 0, 0, 0, []), some (.invokevirtual 55, 5, 7, 83, 1, 457, 0, 0, []), none, none, some (.iconst 0, 6, 0, 0, 0, 0, 0, 0, []), some (.istore_n 2, 7, 0, 2, 0, 0, 0, 0, []), some (.iload_n 2, 8, 0, 2, 0, 0, 0, 0, []), some (.iconst 4, 9, 0, 0, 0, 0, 4, 0, []), some (.if_icmp .ge 34, 12, 43, 0, 0, 0, 0, 0, []), none, none, some (.aload_n 0, 13, 0, 0, 0, 0, 0, 0, []), some (.getfield 22, 16, 0, 7, 3, 197, 0, 0, []), none, none]
def am_t_X7_readMotions_1 : List (Option am_I) := [some (.ifCond .ne 27, 19, 43, 0, 0, 0, 0, 0, []), none, none, some (.aload_n 0, 20, 0, 0, 0, 0, 0, 0, []), some (.aload_n 0, 21, 0, 0, 0, 0, 0, 0, []), some (.getfield 19, 24, 0, 7, 2, 195, 0, 0, []), none, none, some (.invokevirtual 58, 27, 7, 86, 1, 438, 0, 0, []), none, none, some (.bipush 109, 29, 0, 0, 0, 0, 109, 0, []), none, some (.if_icmp .ne 14, 32, 43, 0, 0, 0, 0, 0, []), none, none]
def am_t_X7_readMotions_2 : List (Option am_I) := [some (.aload_n 0, 33, 0, 0, 0, 0, 0, 0, []), some (.aload_n 1, 34, 0, 1, 0, 0, 0, 0, []), some (.invokevirtual 55, 37, 7, 83, 1, 457, 0, 0, []), none, none, some (.iinc 2 1, 40, 0, 2, 0, 0, 1, 0, []), none, none, some (.goto (-33), 43, 7, 0, 0, 0, 0, 0, []), none, none, some (.return_, 44, 0, 0, 0, 0, 0, 0, [])]
def am_t_X7_readMotions : am_T := [am_t_X7_readMotions_0, am_t_X7_readMotions_1, am_t_X7_readMotions_2]
theorem am_q_X7_readMotions_0 : am_okQ (am_ok1 am_mt yX7_readMotions.cls yX7_readMotions.name cX7_readMotions 3 none) 0 am_t_X7_readMotions_0 = true := by decide +kernel
theorem am_q_X7_readMotions_1 : am_okQ (am_ok1 am_mt yX7_readMotions.cls yX7_readMotions.name cX7_readMotions 3 none) 1 am_t_X7_readMotions_1 = true := by decide +kernel
theorem am_q_X7_readMotions_2 : am_okQ (am_ok1 am_mt yX7_readMotions.cls yX7_readMotions.name cX7_readMotions 3 none) 2 am_t_X7_readMotions_2 = true := by decide +kernel
theorem am_q_X7_readMotions : am_okT (am_ok1 am_mt yX7_readMotions.cls yX7_readMotions.name cX7_readMotions 3 none) 0 am_t_X7_readMotions = true := am_okT_c am_q_X7_readMotions_0 (am_okT_c am_q_X7_readMotions_1 (am_okT_c am_q_X7_readMotions_2 (rfl)))
def am_m_X7_readMotions : am_M := (yX7_readMotions, cX7_readMotions, 3, none, 1, 456, 84, 455, 7, 1, am_t_X7_readMotions)
theorem am_k_X7_readMotions : am_okM am_mt am_m_X7_readMotions := ⟨by decide +kernel, am_q_X7_readMotions⟩
def am_t_X7_readMotion_0 : List (Option am_I) := [some (.aload_n 0, 1, 0, 0, 0, 0, 0, 0, []), some (.getfield 22, 4, 0, 7, 3, 197, 0, 0, []), none, none, some (.ifCond .ne 29, 7, 33, 0, 0, 0, 0, 0, []), none, none, some (.aload_n 0, 8, 0, 0, 0, 0, 0, 0, []), some (.aload_n 0, 9, 0, 0, 0, 0, 0, 0, []), some (.getfield 19, 12, 0, 7, 2, 195, 0, 0, []), none, none, some (.invokevirtual 58, 15, 7, 86, 1, 438, 0, 0, []), none, none, some (.bipush 109, 17, 0, 0, 0, 0, 109, 0, [])]
def am_t_X7_readMotion_1 : List (Option am_I) := [none, some (.if_icmp .ne 16, 20, 33, 0, 0, 0, 0, 0, []), none, none, some (.aload_n 1, 21, 0, 1, 0, 0, 0, 0, []), some (.getfield 62, 24, 0, 3, 2, 134, 0, 0, []), none, none, some (.iconst 4, 25, 0, 0, 0, 0, 4, 0, []), some (.if_icmp .ne 8, 28, 33, 0, 0, 0, 0, 0, []), none, none, some (.aload_n 0, 29, 0, 0, 0, 0, 0, 0, []), some (.iconst 3, 30, 0, 0, 0, 0, 3, 0, []), some (.putfield 22, 33, 0, 7, 3, 197, 0, 0, []), none]
def am_t_X7_readMotion_2 : List (Option am_I) := [none, some (.aload_n 0, 34, 0, 0, 0, 0, 0, 0, []), some (.bipush 109, 36, 0, 0, 0, 0, 109, 0, []), none, some (.invokevirtual 44, 39, 7, 87, 1, 434, 0, 0, []), none, none, some (.aload_n 0, 40, 0, 0, 0, 0, 0, 0, []), some (.iconst 0, 41, 0, 0, 0, 0, 0, 0, []), some (.bipush 99, 43, 0, 0, 0, 0, 99, 0, []), none, some (.invokevirtual 48, 46, 7, 88, 2, 442, 0, 0, []), none, none, some (.istore_n 2, 47, 0, 2, 0, 0, 0, 0, []), some (.aload_n 0, 48, 0, 0, 0, 0, 0, 0, [])]
def am_t_X7_readMotion_3 : List (Option am_I) := [some (.bipush 59, 50, 0, 0, 0, 0, 59, 0, []), none, some (.invokevirtual 44, 53, 7, 87, 1, 434, 0, 0, []), none, none, some (.aload_n 0, 54, 0, 0, 0, 0, 0, 0, []), some (.getfield 22, 57, 0, 7, 3, 197, 0, 0, []), none, none, some (.ifCond .ne 8, 60, 65, 0, 0, 0, 0, 0, []), none, none, some (.aload_n 1, 61, 0, 1, 0, 0, 0, 0, []), some (.iload_n 2, 62, 0, 2, 0, 0, 0, 0, []), some (.invokevirtual 65, 65, 3, 42, 1, 461, 0, 0, []), none]
def am_t_X7_readMotion_4 : List (Option am_I) := [none, some (.return_, 66, 0, 0, 0, 0, 0, 0, [])]
def am_t_X7_readMotion : am_T := [am_t_X7_readMotion_0, am_t_X7_readMotion_1, am_t_X7_readMotion_2, am_t_X7_readMotion_3, am_t_X7_readMotion_4]
theorem am_q_X7_readMotion_0 : am_okQ (am_ok1 am_mt yX7_readMotion.cls yX7_readMotion.name cX7_readMotion 3 none) 0 am_t_X7_readMotion_0 = true := by decide +kernel
theorem am_q_X7_readMotion_1 : am_okQ (am_ok1 am_mt yX7_readMotion.cls yX7_readMotion.name cX7_readMotion 3 none) 1 am_t_X7_readMotion_1 = true := by decide +kernel
theorem am_q_X7_readMotion_2 : am_okQ (am_ok1 am_mt yX7_readMotion.cls yX7_readMotion.name cX7_readMotion 3 none) 2 am_t_X7_readMotion_2 = true := by decide +kernel
theorem am_q_X7_readMotion_3 : am_okQ (am_ok1 am_mt yX7_readMotion.cls yX7_readMotion.name cX7_readMotion 3 none) 3 am_t_X7_readMotion_3 = true := by decide +kernel
theorem am_q_X7_readMotion_4 : am_okQ (am_ok1 am_mt yX7_readMotion.cls yX7_readMotion.name cX7_readMotion 3 none) 4 am_t_X7_readMotion_4 = true := by decide +kernel
theorem am_q_X7_readMotion : am_okT (am_ok1 am_mt yX7_readMotion.cls yX7_readMotion.name cX7_readMotion 3 none) 0 am_t_X7_readMotion = true := am_okT_c am_q_X7_readMotion_0 (am_okT_c am_q_X7_readMotion_1 (am_okT_c am_q_X7_readMotion_2 (am_okT_c am_q_X7_readMotion_3 (am_okT_c am_q_X7_readMotion_4 (rfl)))))
def am_m_X7_readMotion : am_M := (yX7_readMotion, cX7_readMotion, 3, none, 1, 460, 84, 459, 8, 1, am_t_X7_readMotion)
theorem am_k_X7_readMotion : am_okM am_mt am_m_X7_readMotion := ⟨by decide +kernel, am_q_X7_readMotion⟩
def am_t_X7_readMembers_0 : List (Option am_I) := [some (.iconst 0, 1, 0, 0, 0, 0, 0, 0, []), some (.istore_n 2, 2, 0, 2, 0, 0, 0, 0, []), some (.iload_n 2, 3, 0, 2, 0, 0, 0, 0, []), some (.iconst 4, 4, 0, 0, 0, 0, 4, 0, []), some (.if_icmp .gt 32, 7, 36, 0, 0, 0, 0, 0, []), none, none, some (.aload_n 0, 8, 0, 0, 0, 0, 0, 0, []), some (.getfield 22, 11, 0, 7, 3, 197, 0, 0, []), none, none, some (.ifCond .ne 25, 14, 36, 0, 0, 0, 0, 0, []), none, none, some (.aload_n 0, 15, 0, 0, 0, 0, 0, 0, []), some (.getfield 19, 18, 0, 7, 2, 195, 0, 0, [])]
def am_t_X7_readMembers_1 : List (Option am_I) := [none, none, some (.aload_n 0, 19, 0, 0, 0, 0, 0, 0, []), some (.getfield 15, 22, 0, 7, 1, 193, 0, 0, []), none, none, some (.if_icmp .ge 14, 25, 36, 0, 0, 0, 0, 0, []), none, none, some (.aload_n 0, 26, 0, 0, 0, 0, 0, 0, []), some (.aload_n 1, 27, 0, 1, 0, 0, 0, 0, []), some (.invokevirtual 68, 30, 7, 85, 1, 469, 0, 0, []), none, none, some (.iinc 2 1, 33, 0, 2, 0, 0, 1, 0, []), none]
def am_t_X7_readMembers_2 : List (Option am_I) := [none, some (.goto (-31), 36, 2, 0, 0, 0, 0, 0, []), none, none, some (.return_, 37, 0, 0, 0, 0, 0, 0, [])]
def am_t_X7_readMembers : am_T := [am_t_X7_readMembers_0, am_t_X7_readMembers_1, am_t_X7_readMembers_2]
theorem am_q_X7_readMembers_0 : am_okQ (am_ok1 am_mt yX7_readMembers.cls yX7_readMembers.name cX7_readMembers 3 none) 0 am_t_X7_readMembers_0 = true := by decide +kernel
theorem am_q_X7_readMembers_1 : am_okQ (am_ok1 am_mt yX7_readMembers.cls yX7_readMembers.name cX7_readMembers 3 none) 1 am_t_X7_readMembers_1 = true := by decide +kernel
theorem am_q_X7_readMembers_2 : am_okQ (am_ok1 am_mt yX7_readMembers.cls yX7_readMembers.name cX7_readMembers 3 none) 2 am_t_X7_readMembers_2 = true := by decide +kernel
theorem am_q_X7_readMembers : am_okT (am_ok1 am_mt yX7_readMembers.cls yX7_readMembers.name cX7_readMembers 3 none) 0 am_t_X7_readMembers = true := am_okT_c am_q_X7_readMembers_0 (am_okT_c am_q_X7_readMembers_1 (am_okT_c am_q_X7_readMembers_2 (rfl)))
def am_m_X7_readMembers : am_M := (yX7_readMembers, cX7_readMembers, 3, none, 1, 468, 84, 467, 9, 1, am_t_X7_readMembers)
theorem am_k_X7_readMembers : am_okM am_mt am_m_X7_readMembers := ⟨by decide +kernel, am_q_X7_readMembers⟩
def am_t_X7_readMember_0 : List (Option am_I) := [some (.aload_n 0, 1, 0, 0, 0, 0, 0, 0, []), some (.aload_n 0, 2, 0, 0, 0, 0, 0, 0, []), some (.getfield 19, 5, 0, 7, 2, 195, 0, 0, []), none, none, some (.invokevirtual 58, 8, 7, 86, 1, 438, 0, 0, []), none, none, some (.invokestatic 71, 11, 0, 91, 1, 473, 0, 0, []), none, none, some (.istore_n 2, 12, 0, 2, 0, 0, 0, 0, []), some (.iload_n 2, 13, 0, 2, 0, 0, 0, 0, []), some (.ifCond .ne 11, 16, 24, 0, 0, 0, 0, 0, []), none, none]
def am_t_X7_readMember_1 : List (Option am_I) := [some (.aload_n 0, 17, 0, 0, 0, 0, 0, 0, []), some (.iconst 1, 18, 0, 0, 0, 0, 1, 0, []), some (.putfield 22, 21, 0, 7, 3, 197, 0, 0, []), none, none, some (.goto 29, 24, 50, 0, 0, 0, 0, 0, []), none, none, some (.aload_n 1, 25, 0, 1, 0, 0, 0, 0, []), some (.getfield 74, 28, 0, 3, 3, 139, 0, 0, []), none, none, some (.iconst 4, 29, 0, 0, 0, 0, 4, 0, []), some (.if_icmp .ne 11, 32, 40, 0, 0, 0, 0, 0, []), none, none]
def am_t_X7_readMember_2 : List (Option am_I) := [some (.aload_n 0, 33, 0, 0, 0, 0, 0, 0, []), some (.iconst 3, 34, 0, 0, 0, 0, 3, 0, []), some (.putfield 22, 37, 0, 7, 3, 197, 0, 0, []), none, none, some (.goto 13, 40, 50, 0, 0, 0, 0, 0, []), none, none, some (.aload_n 0, 41, 0, 0, 0, 0, 0, 0, []), some (.dup, 42, 0, 0, 0, 0, 0, 0, []), some (.getfield 19, 45, 0, 7, 2, 195, 0, 0, []), none, none, some (.iconst 1, 46, 0, 0, 0, 0, 1, 0, []), some (.iadd, 47, 0, 0, 0, 0, 0, 0, []), some (.putfield 19, 50, 0, 7, 2, 195, 0, 0, [])]
def am_t_X7_readMember_3 : List (Option am_I) := [none, none, some (.aload_n 0, 51, 0, 0, 0, 0, 0, 0, []), some (.iconst 0, 52, 0, 0, 0, 0, 0, 0, []), some (.bipush 20, 54, 0, 0, 0, 0, 20, 0, []), none, some (.invokevirtual 48, 57, 7, 88, 2, 442, 0, 0, []), none, none, some (.istore_n 3, 58, 0, 3, 0, 0, 0, 0, []), some (.aload_n 0, 59, 0, 0, 0, 0, 0, 0, []), some (.bipush 44, 61, 0, 0, 0, 0, 44, 0, []), none, some (.invokevirtual 44, 64, 7, 87, 1, 434, 0, 0, []), none, none]
def am_t_X7_readMember_4 : List (Option am_I) := [some (.aload_n 0, 65, 0, 0, 0, 0, 0, 0, []), some (.iconst 0, 66, 0, 0, 0, 0, 0, 0, []), some (.bipush 9, 68, 0, 0, 0, 0, 9, 0, []), none, some (.invokevirtual 48, 71, 7, 88, 2, 442, 0, 0, []), none, none, some (.istore 4, 73, 0, 4, 0, 0, 0, 0, []), none, some (.aload_n 0, 74, 0, 0, 0, 0, 0, 0, []), some (.bipush 59, 76, 0, 0, 0, 0, 59, 0, []), none, some (.invokevirtual 44, 79, 7, 87, 1, 434, 0, 0, []), none, none, some (.aload_n 0, 80, 0, 0, 0, 0, 0, 0, [])]
def am_t_X7_readMember_5 : List (Option am_I) := [some (.getfield 22, 83, 0, 7, 3, 197, 0, 0, []), none, none, some (.ifCond .ne 11, 86, 94, 0, 0, 0, 0, 0, []), none, none, some (.aload_n 1, 87, 0, 1, 0, 0, 0, 0, []), some (.iload_n 2, 88, 0, 2, 0, 0, 0, 0, []), some (.iload_n 3, 89, 0, 3, 0, 0, 0, 0, []), some (.iload 4, 91, 0, 4, 0, 0, 0, 0, []), none, some (.invokevirtual 77, 94, 3, 43, 3, 476, 0, 0, []), none, none, some (.return_, 95, 0, 0, 0, 0, 0, 0, [])]
def am_t_X7_readMember : am_T := [am_t_X7_readMember_0, am_t_X7_readMember_1, am_t_X7_readMember_2, am_t_X7_readMember_3, am_t_X7_readMember_4, am_t_X7_readMember_5]
theorem am_q_X7_readMember_0 : am_okQ (am_ok1 am_mt yX7_readMember.cls yX7_readMember.name cX7_readMember 5 none) 0 am_t_X7_readMember_0 = true := by decide +kernel
theorem am_q_X7_readMember_1 : am_okQ (am_ok1 am_mt yX7_readMember.cls yX7_readMember.name cX7_readMember 5 none) 1 am_t_X7_readMember_1 = true := by decide +kernel
theorem am_q_X7_readMember_2 : am_okQ (am_ok1 am_mt yX7_readMember.cls yX7_readMember.name cX7_readMember 5 none) 2 am_t_X7_readMember_2 = true := by decide +kernel
theorem am_q_X7_readMember_3 : am_okQ (am_ok1 am_mt yX7_readMember.cls yX7_readMember.name cX7_readMember 5 none) 3 am_t_X7_readMember_3 = true := by decide +kernel
theorem am_q_X7_readMember_4 : am_okQ (am_ok1 am_mt yX7_readMember.cls yX7_readMember.name cX7_readMember 5 none) 4 am_t_X7_readMember_4 = true := by decide +kernel
theorem am_q_X7_readMember_5 : am_okQ (am_ok1 am_mt yX7_readMember.cls yX7_readMember.name cX7_readMember 5 none) 5 am_t_X7_readMember_5 = true := by decide +kernel
theorem am_q_X7_readMember : am_okT (am_ok1 am_mt yX7_readMember.cls yX7_readMember.name cX7_readMember 5 none) 0 am_t_X7_readMember = true := am_okT_c am_q_X7_readMember_0 (am_okT_c am_q_X7_readMember_1 (am_okT_c am_q_X7_readMember_2 (am_okT_c am_q_X7_readMember_3 (am_okT_c am_q_X7_readMember_4 (am_okT_c am_q_X7_readMember_5 (rfl))))))
def am_m_X7_readMember : am_M := (yX7_readMember, cX7_readMember, 5, none, 1, 472, 84, 471, 10, 1, am_t_X7_readMember)
theorem am_k_X7_readMember : am_okM am_mt am_m_X7_readMember := ⟨by decide +kernel, am_q_X7_readMember⟩
def am_t_X7_letterAt_0 : List (Option am_I) := [some (.iload_n 1, 1, 0, 1, 0, 0, 0, 0, []), some (.ifCond .lt 20, 4, 21, 0, 0, 0, 0, 0, []), none, none, some (.iload_n 1, 5, 0, 1, 0, 0, 0, 0, []), some (.aload_n 0, 6, 0, 0, 0, 0, 0, 0, []), some (.getfield 15, 9, 0, 7, 1, 193, 0, 0, []), none, none, some (.if_icmp .ge 12, 12, 21, 0, 0, 0, 0, 0, []), none, none, some (.aload_n 0, 13, 0, 0, 0, 0, 0, 0, []), some (.getfield 9, 16, 0, 7, 0, 192, 0, 0, []), none, none]
def am_t_X7_letterAt_1 : List (Option am_I) := [some (.iload_n 1, 17, 0, 1, 0, 0, 0, 0, []), some (.iaload, 18, 0, 0, 0, 0, 0, 0, []), some (.goto 4, 21, 22, 0, 0, 0, 0, 0, []), none, none, some (.iconst (-1), 22, 0, 0, 0, 0, (-1), 0, []), some (.ireturn, 23, 0, 0, 0, 0, 0, 0, [])]
def am_t_X7_letterAt : am_T := [am_t_X7_letterAt_0, am_t_X7_letterAt_1]
theorem am_q_X7_letterAt_0 : am_okQ (am_ok1 am_mt yX7_letterAt.cls yX7_letterAt.name cX7_letterAt 2 (some .int)) 0 am_t_X7_letterAt_0 = true := by decide +kernel
theorem am_q_X7_letterAt_1 : am_okQ (am_ok1 am_mt yX7_letterAt.cls yX7_letterAt.name cX7_letterAt 2 (some .int)) 1 am_t_X7_letterAt_1 = true := by decide +kernel
theorem am_q_X7_letterAt : am_okT (am_ok1 am_mt yX7_letterAt.cls yX7_letterAt.name cX7_letterAt 2 (some .int)) 0 am_t_X7_letterAt = true := am_okT_c am_q_X7_letterAt_0 (am_okT_c am_q_X7_letterAt_1 (rfl))
def am_m_X7_letterAt : am_M := (yX7_letterAt, cX7_letterAt, 2, (some .int), 1, 441, 84, 440, 4, 1, am_t_X7_letterAt)
theorem am_k_X7_letterAt : am_okM am_mt am_m_X7_letterAt := ⟨by decide +kernel, am_q_X7_letterAt⟩
def am_t_X7_take_0 : List (Option am_I) := [some (.aload_n 0, 1, 0, 0, 0, 0, 0, 0, []), some (.getfield 22, 4, 0, 7, 3, 197, 0, 0, []), none, none, some (.ifCond .eq 4, 7, 8, 0, 0, 0, 0, 0, []), none, none, some (.return_, 8, 0, 0, 0, 0, 0, 0, []), some (.aload_n 0, 9, 0, 0, 0, 0, 0, 0, []), some (.aload_n 0, 10, 0, 0, 0, 0, 0, 0, []), some (.getfield 19, 13, 0, 7, 2, 195, 0, 0, []), none, none, some (.invokevirtual 58, 16, 7, 86, 1, 438, 0, 0, []), none, none]
def am_t_X7_take_1 : List (Option am_I) := [some (.iload_n 1, 17, 0, 1, 0, 0, 0, 0, []), some (.if_icmp .eq 9, 20, 26, 0, 0, 0, 0, 0, []), none, none, some (.aload_n 0, 21, 0, 0, 0, 0, 0, 0, []), some (.iconst 1, 22, 0, 0, 0, 0, 1, 0, []), some (.putfield 22, 25, 0, 7, 3, 197, 0, 0, []), none, none, some (.return_, 26, 0, 0, 0, 0, 0, 0, []), some (.aload_n 0, 27, 0, 0, 0, 0, 0, 0, []), some (.dup, 28, 0, 0, 0, 0, 0, 0, []), some (.getfield 19, 31, 0, 7, 2, 195, 0, 0, []), none, none, some (.iconst 1, 32, 0, 0, 0, 0, 1, 0, [])]
def am_t_X7_take_2 : List (Option am_I) := [some (.iadd, 33, 0, 0, 0, 0, 0, 0, []), some (.putfield 19, 36, 0, 7, 2, 195, 0, 0, []), none, none, some (.return_, 37, 0, 0, 0, 0, 0, 0, [])]
def am_t_X7_take : am_T := [am_t_X7_take_0, am_t_X7_take_1, am_t_X7_take_2]
theorem am_q_X7_take_0 : am_okQ (am_ok1 am_mt yX7_take.cls yX7_take.name cX7_take 2 none) 0 am_t_X7_take_0 = true := by decide +kernel
theorem am_q_X7_take_1 : am_okQ (am_ok1 am_mt yX7_take.cls yX7_take.name cX7_take 2 none) 1 am_t_X7_take_1 = true := by decide +kernel
theorem am_q_X7_take_2 : am_okQ (am_ok1 am_mt yX7_take.cls yX7_take.name cX7_take 2 none) 2 am_t_X7_take_2 = true := by decide +kernel
theorem am_q_X7_take : am_okT (am_ok1 am_mt yX7_take.cls yX7_take.name cX7_take 2 none) 0 am_t_X7_take = true := am_okT_c am_q_X7_take_0 (am_okT_c am_q_X7_take_1 (am_okT_c am_q_X7_take_2 (rfl)))
def am_m_X7_take : am_M := (yX7_take, cX7_take, 2, none, 1, 437, 84, 436, 3, 1, am_t_X7_take)
theorem am_k_X7_take : am_okM am_mt am_m_X7_take := ⟨by decide +kernel, am_q_X7_take⟩
def am_t_X7_takeNumber_0 : List (Option am_I) := [some (.aload_n 0, 1, 0, 0, 0, 0, 0, 0, []), some (.getfield 22, 4, 0, 7, 3, 197, 0, 0, []), none, none, some (.ifCond .eq 5, 7, 9, 0, 0, 0, 0, 0, []), none, none, some (.iconst 0, 8, 0, 0, 0, 0, 0, 0, []), some (.ireturn, 9, 0, 0, 0, 0, 0, 0, []), some (.aload_n 0, 10, 0, 0, 0, 0, 0, 0, []), some (.aload_n 0, 11, 0, 0, 0, 0, 0, 0, []), some (.getfield 19, 14, 0, 7, 2, 195, 0, 0, []), none, none, some (.invokevirtual 81, 17, 7, 89, 1, 446, 0, 0, []), none]
def am_t_X7_takeNumber_1 : List (Option am_I) := [none, some (.istore_n 3, 18, 0, 3, 0, 0, 0, 0, []), some (.iload_n 3, 19, 0, 3, 0, 0, 0, 0, []), some (.iconst 1, 20, 0, 0, 0, 0, 1, 0, []), some (.if_icmp .lt 8, 23, 28, 0, 0, 0, 0, 0, []), none, none, some (.iload_n 3, 24, 0, 3, 0, 0, 0, 0, []), some (.iconst 2, 25, 0, 0, 0, 0, 2, 0, []), some (.if_icmp .le 10, 28, 35, 0, 0, 0, 0, 0, []), none, none, some (.aload_n 0, 29, 0, 0, 0, 0, 0, 0, []), some (.iconst 1, 30, 0, 0, 0, 0, 1, 0, []), some (.putfield 22, 33, 0, 7, 3, 197, 0, 0, []), none]
def am_t_X7_takeNumber_2 : List (Option am_I) := [none, some (.iconst 0, 34, 0, 0, 0, 0, 0, 0, []), some (.ireturn, 35, 0, 0, 0, 0, 0, 0, []), some (.iconst 0, 36, 0, 0, 0, 0, 0, 0, []), some (.istore 4, 38, 0, 4, 0, 0, 0, 0, []), none, some (.iconst 0, 39, 0, 0, 0, 0, 0, 0, []), some (.istore 5, 41, 0, 5, 0, 0, 0, 0, []), none, some (.iload 5, 43, 0, 5, 0, 0, 0, 0, []), none, some (.iload_n 3, 44, 0, 3, 0, 0, 0, 0, []), some (.if_icmp .ge 31, 47, 75, 0, 0, 0, 0, 0, []), none, none, some (.iload 4, 49, 0, 4, 0, 0, 0, 0, [])]
def am_t_X7_takeNumber_3 : List (Option am_I) := [none, some (.bipush 10, 51, 0, 0, 0, 0, 10, 0, []), none, some (.imul, 52, 0, 0, 0, 0, 0, 0, []), some (.aload_n 0, 53, 0, 0, 0, 0, 0, 0, []), some (.aload_n 0, 54, 0, 0, 0, 0, 0, 0, []), some (.getfield 19, 57, 0, 7, 2, 195, 0, 0, []), none, none, some (.iload 5, 59, 0, 5, 0, 0, 0, 0, []), none, some (.iadd, 60, 0, 0, 0, 0, 0, 0, []), some (.invokevirtual 58, 63, 7, 86, 1, 438, 0, 0, []), none, none, some (.iadd, 64, 0, 0, 0, 0, 0, 0, [])]
def am_t_X7_takeNumber_4 : List (Option am_I) := [some (.bipush 48, 66, 0, 0, 0, 0, 48, 0, []), none, some (.isub, 67, 0, 0, 0, 0, 0, 0, []), some (.istore 4, 69, 0, 4, 0, 0, 0, 0, []), none, some (.iinc 5 1, 72, 0, 5, 0, 0, 1, 0, []), none, none, some (.goto (-31), 75, 41, 0, 0, 0, 0, 0, []), none, none, some (.iload 4, 77, 0, 4, 0, 0, 0, 0, []), none, some (.iload_n 1, 78, 0, 1, 0, 0, 0, 0, []), some (.if_icmp .lt 9, 81, 87, 0, 0, 0, 0, 0, []), none]
def am_t_X7_takeNumber_5 : List (Option am_I) := [none, some (.iload 4, 83, 0, 4, 0, 0, 0, 0, []), none, some (.iload_n 2, 84, 0, 2, 0, 0, 0, 0, []), some (.if_icmp .le 10, 87, 94, 0, 0, 0, 0, 0, []), none, none, some (.aload_n 0, 88, 0, 0, 0, 0, 0, 0, []), some (.iconst 2, 89, 0, 0, 0, 0, 2, 0, []), some (.putfield 22, 92, 0, 7, 3, 197, 0, 0, []), none, none, some (.iconst 0, 93, 0, 0, 0, 0, 0, 0, []), some (.ireturn, 94, 0, 0, 0, 0, 0, 0, []), some (.aload_n 0, 95, 0, 0, 0, 0, 0, 0, []), some (.dup, 96, 0, 0, 0, 0, 0, 0, [])]
def am_t_X7_takeNumber_6 : List (Option am_I) := [some (.getfield 19, 99, 0, 7, 2, 195, 0, 0, []), none, none, some (.iload_n 3, 100, 0, 3, 0, 0, 0, 0, []), some (.iadd, 101, 0, 0, 0, 0, 0, 0, []), some (.putfield 19, 104, 0, 7, 2, 195, 0, 0, []), none, none, some (.iload 4, 106, 0, 4, 0, 0, 0, 0, []), none, some (.ireturn, 107, 0, 0, 0, 0, 0, 0, [])]
def am_t_X7_takeNumber : am_T := [am_t_X7_takeNumber_0, am_t_X7_takeNumber_1, am_t_X7_takeNumber_2, am_t_X7_takeNumber_3, am_t_X7_takeNumber_4, am_t_X7_takeNumber_5, am_t_X7_takeNumber_6]
theorem am_q_X7_takeNumber_0 : am_okQ (am_ok1 am_mt yX7_takeNumber.cls yX7_takeNumber.name cX7_takeNumber 6 (some .int)) 0 am_t_X7_takeNumber_0 = true := by decide +kernel
theorem am_q_X7_takeNumber_1 : am_okQ (am_ok1 am_mt yX7_takeNumber.cls yX7_takeNumber.name cX7_takeNumber 6 (some .int)) 1 am_t_X7_takeNumber_1 = true := by decide +kernel
theorem am_q_X7_takeNumber_2 : am_okQ (am_ok1 am_mt yX7_takeNumber.cls yX7_takeNumber.name cX7_takeNumber 6 (some .int)) 2 am_t_X7_takeNumber_2 = true := by decide +kernel
theorem am_q_X7_takeNumber_3 : am_okQ (am_ok1 am_mt yX7_takeNumber.cls yX7_takeNumber.name cX7_takeNumber 6 (some .int)) 3 am_t_X7_takeNumber_3 = true := by decide +kernel
theorem am_q_X7_takeNumber_4 : am_okQ (am_ok1 am_mt yX7_takeNumber.cls yX7_takeNumber.name cX7_takeNumber 6 (some .int)) 4 am_t_X7_takeNumber_4 = true := by decide +kernel
theorem am_q_X7_takeNumber_5 : am_okQ (am_ok1 am_mt yX7_takeNumber.cls yX7_takeNumber.name cX7_takeNumber 6 (some .int)) 5 am_t_X7_takeNumber_5 = true := by decide +kernel
theorem am_q_X7_takeNumber_6 : am_okQ (am_ok1 am_mt yX7_takeNumber.cls yX7_takeNumber.name cX7_takeNumber 6 (some .int)) 6 am_t_X7_takeNumber_6 = true := by decide +kernel
theorem am_q_X7_takeNumber : am_okT (am_ok1 am_mt yX7_takeNumber.cls yX7_takeNumber.name cX7_takeNumber 6 (some .int)) 0 am_t_X7_takeNumber = true := am_okT_c am_q_X7_takeNumber_0 (am_okT_c am_q_X7_takeNumber_1 (am_okT_c am_q_X7_takeNumber_2 (am_okT_c am_q_X7_takeNumber_3 (am_okT_c am_q_X7_takeNumber_4 (am_okT_c am_q_X7_takeNumber_5 (am_okT_c am_q_X7_takeNumber_6 (rfl)))))))
def am_m_X7_takeNumber : am_M := (yX7_takeNumber, cX7_takeNumber, 6, (some .int), 1, 445, 84, 444, 5, 2, am_t_X7_takeNumber)
theorem am_k_X7_takeNumber : am_okM am_mt am_m_X7_takeNumber := ⟨by decide +kernel, am_q_X7_takeNumber⟩
def am_t_X7_figuresAt_0 : List (Option am_I) := [some (.iconst 0, 1, 0, 0, 0, 0, 0, 0, []), some (.istore_n 2, 2, 0, 2, 0, 0, 0, 0, []), some (.iload_n 1, 3, 0, 1, 0, 0, 0, 0, []), some (.istore_n 3, 4, 0, 3, 0, 0, 0, 0, []), some (.iload_n 3, 5, 0, 3, 0, 0, 0, 0, []), some (.aload_n 0, 6, 0, 0, 0, 0, 0, 0, []), some (.getfield 15, 9, 0, 7, 1, 193, 0, 0, []), none, none, some (.if_icmp .ge 23, 12, 32, 0, 0, 0, 0, 0, []), none, none, some (.aload_n 0, 13, 0, 0, 0, 0, 0, 0, []), some (.iload_n 3, 14, 0, 3, 0, 0, 0, 0, []), some (.invokevirtual 58, 17, 7, 86, 1, 438, 0, 0, []), none]
def am_t_X7_figuresAt_1 : List (Option am_I) := [none, some (.invokestatic 84, 20, 0, 90, 1, 450, 0, 0, []), none, none, some (.ifCond .eq 12, 23, 32, 0, 0, 0, 0, 0, []), none, none, some (.iinc 2 1, 26, 0, 2, 0, 0, 1, 0, []), none, none, some (.iinc 3 1, 29, 0, 3, 0, 0, 1, 0, []), none, none, some (.goto (-25), 32, 4, 0, 0, 0, 0, 0, []), none, none]
def am_t_X7_figuresAt_2 : List (Option am_I) := [some (.iload_n 2, 33, 0, 2, 0, 0, 0, 0, []), some (.ireturn, 34, 0, 0, 0, 0, 0, 0, [])]
def am_t_X7_figuresAt : am_T := [am_t_X7_figuresAt_0, am_t_X7_figuresAt_1, am_t_X7_figuresAt_2]
theorem am_q_X7_figuresAt_0 : am_okQ (am_ok1 am_mt yX7_figuresAt.cls yX7_figuresAt.name cX7_figuresAt 4 (some .int)) 0 am_t_X7_figuresAt_0 = true := by decide +kernel
theorem am_q_X7_figuresAt_1 : am_okQ (am_ok1 am_mt yX7_figuresAt.cls yX7_figuresAt.name cX7_figuresAt 4 (some .int)) 1 am_t_X7_figuresAt_1 = true := by decide +kernel
theorem am_q_X7_figuresAt_2 : am_okQ (am_ok1 am_mt yX7_figuresAt.cls yX7_figuresAt.name cX7_figuresAt 4 (some .int)) 2 am_t_X7_figuresAt_2 = true := by decide +kernel
theorem am_q_X7_figuresAt : am_okT (am_ok1 am_mt yX7_figuresAt.cls yX7_figuresAt.name cX7_figuresAt 4 (some .int)) 0 am_t_X7_figuresAt = true := am_okT_c am_q_X7_figuresAt_0 (am_okT_c am_q_X7_figuresAt_1 (am_okT_c am_q_X7_figuresAt_2 (rfl)))
def am_m_X7_figuresAt : am_M := (yX7_figuresAt, cX7_figuresAt, 4, (some .int), 1, 449, 84, 448, 6, 1, am_t_X7_figuresAt)
theorem am_k_X7_figuresAt : am_okM am_mt am_m_X7_figuresAt := ⟨by decide +kernel, am_q_X7_figuresAt⟩
def am_t_X7_isFigure_0 : List (Option am_I) := [some (.iload_n 0, 1, 0, 0, 0, 0, 0, 0, []), some (.bipush 48, 3, 0, 0, 0, 0, 48, 0, []), none, some (.if_icmp .lt 13, 6, 16, 0, 0, 0, 0, 0, []), none, none, some (.iload_n 0, 7, 0, 0, 0, 0, 0, 0, []), some (.bipush 57, 9, 0, 0, 0, 0, 57, 0, []), none, some (.if_icmp .gt 7, 12, 16, 0, 0, 0, 0, 0, []), none, none, some (.iconst 1, 13, 0, 0, 0, 0, 1, 0, []), some (.goto 4, 16, 17, 0, 0, 0, 0, 0, []), none, none]
def am_t_X7_isFigure_1 : List (Option am_I) := [some (.iconst 0, 17, 0, 0, 0, 0, 0, 0, []), some (.ireturn, 18, 1, 0, 0, 0, 0, 0, [])]
def am_t_X7_isFigure : am_T := [am_t_X7_isFigure_0, am_t_X7_isFigure_1]
theorem am_q_X7_isFigure_0 : am_okQ (am_ok1 am_mt yX7_isFigure.cls yX7_isFigure.name cX7_isFigure 1 (some .boolean)) 0 am_t_X7_isFigure_0 = true := by decide +kernel
theorem am_q_X7_isFigure_1 : am_okQ (am_ok1 am_mt yX7_isFigure.cls yX7_isFigure.name cX7_isFigure 1 (some .boolean)) 1 am_t_X7_isFigure_1 = true := by decide +kernel
theorem am_q_X7_isFigure : am_okT (am_ok1 am_mt yX7_isFigure.cls yX7_isFigure.name cX7_isFigure 1 (some .boolean)) 0 am_t_X7_isFigure = true := am_okT_c am_q_X7_isFigure_0 (am_okT_c am_q_X7_isFigure_1 (rfl))
def am_m_X7_isFigure : am_M := (yX7_isFigure, cX7_isFigure, 1, (some .boolean), 0, 452, 84, 451, 0, 1, am_t_X7_isFigure)
theorem am_k_X7_isFigure : am_okM am_mt am_m_X7_isFigure := ⟨by decide +kernel, am_q_X7_isFigure⟩
def am_t_X7_sortOf_0 : List (Option am_I) := [some (.iload_n 0, 1, 0, 0, 0, 0, 0, 0, []), some (.tableswitch 85 100 114 #[79, 85, 85, 85, 85, 81, 85, 85, 77, 85, 85, 85, 75, 85, 83], 76, 86, 0, 0, 0, 0, 0, [(100, 80), (101, 86), (102, 86), (103, 86), (104, 86), (105, 82), (106, 86), (107, 86), (108, 78), (109, 86), (110, 86), (111, 86), (112, 76), (113, 86), (114, 84)]), none, none, none, none, none, none, none, none, none, none, none, none, none, none]
def am_t_X7_sortOf_1 : List (Option am_I) := [none, none, none, none, none, none, none, none, none, none, none, none, none, none, none, none]
def am_t_X7_sortOf_2 : List (Option am_I) := [none, none, none, none, none, none, none, none, none, none, none, none, none, none, none, none]
def am_t_X7_sortOf_3 : List (Option am_I) := [none, none, none, none, none, none, none, none, none, none, none, none, none, none, none, none]
def am_t_X7_sortOf_4 : List (Option am_I) := [none, none, none, none, none, none, none, none, none, none, none, none, some (.iconst 1, 77, 0, 0, 0, 0, 1, 0, []), some (.ireturn, 78, 0, 0, 0, 0, 0, 0, []), some (.iconst 2, 79, 0, 0, 0, 0, 2, 0, []), some (.ireturn, 80, 0, 0, 0, 0, 0, 0, [])]
def am_t_X7_sortOf_5 : List (Option am_I) := [some (.iconst 3, 81, 0, 0, 0, 0, 3, 0, []), some (.ireturn, 82, 0, 0, 0, 0, 0, 0, []), some (.iconst 4, 83, 0, 0, 0, 0, 4, 0, []), some (.ireturn, 84, 0, 0, 0, 0, 0, 0, []), some (.iconst 5, 85, 0, 0, 0, 0, 5, 0, []), some (.ireturn, 86, 0, 0, 0, 0, 0, 0, []), some (.iconst 0, 87, 0, 0, 0, 0, 0, 0, []), some (.ireturn, 88, 0, 0, 0, 0, 0, 0, [])]
def am_t_X7_sortOf : am_T := [am_t_X7_sortOf_0, am_t_X7_sortOf_1, am_t_X7_sortOf_2, am_t_X7_sortOf_3, am_t_X7_sortOf_4, am_t_X7_sortOf_5]
theorem am_q_X7_sortOf_0 : am_okQ (am_ok1 am_mt yX7_sortOf.cls yX7_sortOf.name cX7_sortOf 1 (some .int)) 0 am_t_X7_sortOf_0 = true := by decide +kernel
theorem am_q_X7_sortOf_1 : am_okQ (am_ok1 am_mt yX7_sortOf.cls yX7_sortOf.name cX7_sortOf 1 (some .int)) 1 am_t_X7_sortOf_1 = true := by decide +kernel
theorem am_q_X7_sortOf_2 : am_okQ (am_ok1 am_mt yX7_sortOf.cls yX7_sortOf.name cX7_sortOf 1 (some .int)) 2 am_t_X7_sortOf_2 = true := by decide +kernel
theorem am_q_X7_sortOf_3 : am_okQ (am_ok1 am_mt yX7_sortOf.cls yX7_sortOf.name cX7_sortOf 1 (some .int)) 3 am_t_X7_sortOf_3 = true := by decide +kernel
theorem am_q_X7_sortOf_4 : am_okQ (am_ok1 am_mt yX7_sortOf.cls yX7_sortOf.name cX7_sortOf 1 (some .int)) 4 am_t_X7_sortOf_4 = true := by decide +kernel
theorem am_q_X7_sortOf_5 : am_okQ (am_ok1 am_mt yX7_sortOf.cls yX7_sortOf.name cX7_sortOf 1 (some .int)) 5 am_t_X7_sortOf_5 = true := by decide +kernel
theorem am_q_X7_sortOf : am_okT (am_ok1 am_mt yX7_sortOf.cls yX7_sortOf.name cX7_sortOf 1 (some .int)) 0 am_t_X7_sortOf = true := am_okT_c am_q_X7_sortOf_0 (am_okT_c am_q_X7_sortOf_1 (am_okT_c am_q_X7_sortOf_2 (am_okT_c am_q_X7_sortOf_3 (am_okT_c am_q_X7_sortOf_4 (am_okT_c am_q_X7_sortOf_5 (rfl))))))
def am_m_X7_sortOf : am_M := (yX7_sortOf, cX7_sortOf, 1, (some .int), 0, 475, 84, 474, 0, 1, am_t_X7_sortOf)
theorem am_k_X7_sortOf : am_okM am_mt am_m_X7_sortOf := ⟨by decide +kernel, am_q_X7_sortOf⟩
def am_t_X8_init_0 : List (Option am_I) := [some (.aload_n 0, 1, 0, 0, 0, 0, 0, 0, []), some (.invokespecial 1, 4, 2, 0, 0, 99, 0, 0, []), none, none, some (.new 7, 7, 0, 6, 0, 102, 0, 0, []), none, none, some (.dup, 8, 0, 0, 0, 0, 0, 0, []), some (.invokespecial 9, 11, 0, 65, 0, 104, 0, 0, []), none, none, some (.astore_n 1, 12, 0, 1, 0, 0, 0, 0, []), some (.new 10, 15, 0, 3, 0, 119, 0, 0, []), none, none, some (.dup, 16, 0, 0, 0, 0, 0, 0, [])]
def am_t_X8_init_1 : List (Option am_I) := [some (.invokespecial 12, 19, 1, 36, 0, 121, 0, 0, []), none, none, some (.astore_n 2, 20, 0, 2, 0, 0, 0, 0, []), some (.new 10, 23, 0, 3, 0, 119, 0, 0, []), none, none, some (.dup, 24, 0, 0, 0, 0, 0, 0, []), some (.invokespecial 12, 27, 1, 36, 0, 121, 0, 0, []), none, none, some (.astore_n 3, 28, 0, 3, 0, 0, 0, 0, []), some (.aload_n 0, 29, 0, 0, 0, 0, 0, 0, []), some (.aload_n 1, 30, 0, 1, 0, 0, 0, 0, []), some (.putfield 13, 33, 2, 8, 0, 304, 0, 0, []), none]
def am_t_X8_init_2 : List (Option am_I) := [none, some (.aload_n 0, 34, 0, 0, 0, 0, 0, 0, []), some (.new 19, 37, 0, 7, 0, 186, 0, 0, []), none, none, some (.dup, 38, 0, 0, 0, 0, 0, 0, []), some (.invokespecial 21, 41, 1, 76, 0, 188, 0, 0, []), none, none, some (.putfield 22, 44, 2, 8, 1, 305, 0, 0, []), none, none, some (.aload_n 0, 45, 0, 0, 0, 0, 0, 0, []), some (.aload_n 2, 46, 0, 2, 0, 0, 0, 0, []), some (.putfield 26, 49, 2, 8, 2, 306, 0, 0, []), none]
def am_t_X8_init_3 : List (Option am_I) := [none, some (.aload_n 0, 50, 0, 0, 0, 0, 0, 0, []), some (.new 10, 53, 0, 3, 0, 119, 0, 0, []), none, none, some (.dup, 54, 0, 0, 0, 0, 0, 0, []), some (.invokespecial 12, 57, 1, 36, 0, 121, 0, 0, []), none, none, some (.putfield 30, 60, 2, 8, 3, 307, 0, 0, []), none, none, some (.aload_n 0, 61, 0, 0, 0, 0, 0, 0, []), some (.new 10, 64, 0, 3, 0, 119, 0, 0, []), none, none]
def am_t_X8_init_4 : List (Option am_I) := [some (.dup, 65, 0, 0, 0, 0, 0, 0, []), some (.invokespecial 12, 68, 1, 36, 0, 121, 0, 0, []), none, none, some (.putfield 33, 71, 2, 8, 4, 308, 0, 0, []), none, none, some (.aload_n 0, 72, 0, 0, 0, 0, 0, 0, []), some (.new 10, 75, 0, 3, 0, 119, 0, 0, []), none, none, some (.dup, 76, 0, 0, 0, 0, 0, 0, []), some (.invokespecial 12, 79, 1, 36, 0, 121, 0, 0, []), none, none, some (.putfield 36, 82, 2, 8, 5, 309, 0, 0, [])]
def am_t_X8_init_5 : List (Option am_I) := [none, none, some (.aload_n 0, 83, 0, 0, 0, 0, 0, 0, []), some (.new 39, 86, 0, 0, 0, 208, 0, 0, []), none, none, some (.dup, 87, 0, 0, 0, 0, 0, 0, []), some (.invokespecial 41, 90, 1, 0, 0, 210, 0, 0, []), none, none, some (.putfield 42, 93, 2, 8, 6, 310, 0, 0, []), none, none, some (.aload_n 0, 94, 0, 0, 0, 0, 0, 0, []), some (.new 46, 97, 0, 2, 0, 225, 0, 0, []), none]
def am_t_X8_init_6 : List (Option am_I) := [none, some (.dup, 98, 0, 0, 0, 0, 0, 0, []), some (.aload_n 2, 99, 0, 2, 0, 0, 0, 0, []), some (.aload_n 3, 100, 0, 3, 0, 0, 0, 0, []), some (.invokespecial 48, 103, 0, 20, 2, 227, 0, 0, []), none, none, some (.putfield 51, 106, 2, 8, 7, 311, 0, 0, []), none, none, some (.aload_n 0, 107, 0, 0, 0, 0, 0, 0, []), some (.new 55, 110, 0, 5, 0, 241, 0, 0, []), none, none, some (.dup, 111, 0, 0, 0, 0, 0, 0, []), some (.aload_n 2, 112, 0, 2, 0, 0, 0, 0, [])]
def am_t_X8_init_7 : List (Option am_I) := [some (.aload_n 3, 113, 0, 3, 0, 0, 0, 0, []), some (.invokespecial 57, 116, 0, 58, 2, 243, 0, 0, []), none, none, some (.putfield 58, 119, 2, 8, 8, 312, 0, 0, []), none, none, some (.aload_n 0, 120, 0, 0, 0, 0, 0, 0, []), some (.new 62, 123, 0, 4, 0, 269, 0, 0, []), none, none, some (.dup, 124, 0, 0, 0, 0, 0, 0, []), some (.aload_n 2, 125, 0, 2, 0, 0, 0, 0, []), some (.aload_n 3, 126, 0, 3, 0, 0, 0, 0, []), some (.aload_n 1, 127, 0, 1, 0, 0, 0, 0, []), some (.invokespecial 64, 130, 0, 53, 3, 271, 0, 0, [])]
def am_t_X8_init_8 : List (Option am_I) := [none, none, some (.putfield 67, 133, 2, 8, 9, 313, 0, 0, []), none, none, some (.aload_n 0, 134, 0, 0, 0, 0, 0, 0, []), some (.new 71, 137, 0, 1, 0, 285, 0, 0, []), none, none, some (.dup, 138, 0, 0, 0, 0, 0, 0, []), some (.aload_n 2, 139, 0, 2, 0, 0, 0, 0, []), some (.invokespecial 73, 142, 0, 4, 1, 287, 0, 0, []), none, none, some (.putfield 76, 145, 2, 8, 10, 314, 0, 0, []), none]
def am_t_X8_init_9 : List (Option am_I) := [none, some (.return_, 146, 0, 0, 0, 0, 0, 0, [])]
def am_t_X8_init : am_T := [am_t_X8_init_0, am_t_X8_init_1, am_t_X8_init_2, am_t_X8_init_3, am_t_X8_init_4, am_t_X8_init_5, am_t_X8_init_6, am_t_X8_init_7, am_t_X8_init_8, am_t_X8_init_9]
theorem am_q_X8_init_0 : am_okQ (am_ok1 am_mt yX8_init.cls yX8_init.name cX8_init 4 none) 0 am_t_X8_init_0 = true := by decide +kernel
theorem am_q_X8_init_1 : am_okQ (am_ok1 am_mt yX8_init.cls yX8_init.name cX8_init 4 none) 1 am_t_X8_init_1 = true := by decide +kernel
theorem am_q_X8_init_2 : am_okQ (am_ok1 am_mt yX8_init.cls yX8_init.name cX8_init 4 none) 2 am_t_X8_init_2 = true := by decide +kernel
theorem am_q_X8_init_3 : am_okQ (am_ok1 am_mt yX8_init.cls yX8_init.name cX8_init 4 none) 3 am_t_X8_init_3 = true := by decide +kernel
theorem am_q_X8_init_4 : am_okQ (am_ok1 am_mt yX8_init.cls yX8_init.name cX8_init 4 none) 4 am_t_X8_init_4 = true := by decide +kernel
theorem am_q_X8_init_5 : am_okQ (am_ok1 am_mt yX8_init.cls yX8_init.name cX8_init 4 none) 5 am_t_X8_init_5 = true := by decide +kernel
theorem am_q_X8_init_6 : am_okQ (am_ok1 am_mt yX8_init.cls yX8_init.name cX8_init 4 none) 6 am_t_X8_init_6 = true := by decide +kernel
theorem am_q_X8_init_7 : am_okQ (am_ok1 am_mt yX8_init.cls yX8_init.name cX8_init 4 none) 7 am_t_X8_init_7 = true := by decide +kernel
theorem am_q_X8_init_8 : am_okQ (am_ok1 am_mt yX8_init.cls yX8_init.name cX8_init 4 none) 8 am_t_X8_init_8 = true := by decide +kernel
theorem am_q_X8_init_9 : am_okQ (am_ok1 am_mt yX8_init.cls yX8_init.name cX8_init 4 none) 9 am_t_X8_init_9 = true := by decide +kernel
theorem am_q_X8_init : am_okT (am_ok1 am_mt yX8_init.cls yX8_init.name cX8_init 4 none) 0 am_t_X8_init = true := am_okT_c am_q_X8_init_0 (am_okT_c am_q_X8_init_1 (am_okT_c am_q_X8_init_2 (am_okT_c am_q_X8_init_3 (am_okT_c am_q_X8_init_4 (am_okT_c am_q_X8_init_5 (am_okT_c am_q_X8_init_6 (am_okT_c am_q_X8_init_7 (am_okT_c am_q_X8_init_8 (am_okT_c am_q_X8_init_9 (rfl))))))))))
def am_m_X8_init : am_M := (yX8_init, cX8_init, 4, none, 2, 98, 81, 97, 0, 0, am_t_X8_init)
theorem am_k_X8_init : am_okM am_mt am_m_X8_init := ⟨by decide +kernel, am_q_X8_init⟩
def am_t_X8_row_0 : List (Option am_I) := [some (.aload_n 0, 1, 0, 0, 0, 0, 0, 0, []), some (.getfield 13, 4, 0, 8, 0, 304, 0, 0, []), none, none, some (.iload_n 1, 5, 0, 1, 0, 0, 0, 0, []), some (.invokevirtual 80, 8, 6, 66, 1, 348, 0, 0, []), none, none, some (.ifCond .eq 18, 11, 26, 0, 0, 0, 0, 0, []), none, none, some (.iload_n 2, 12, 0, 2, 0, 0, 0, 0, []), some (.ifCond .lt 14, 15, 26, 0, 0, 0, 0, 0, []), none, none, some (.iload_n 2, 16, 0, 2, 0, 0, 0, 0, [])]
def am_t_X8_row_1 : List (Option am_I) := [some (.iconst 2, 17, 0, 0, 0, 0, 2, 0, []), some (.if_icmp .gt 9, 20, 26, 0, 0, 0, 0, 0, []), none, none, some (.iload_n 3, 21, 0, 3, 0, 0, 0, 0, []), some (.bipush 40, 23, 0, 0, 0, 0, 40, 0, []), none, some (.if_icmp .le 6, 26, 29, 0, 0, 0, 0, 0, []), none, none, some (.ldc 84, 28, 0, 0, 0, 352, (-1000001), 0, []), none, some (.ireturn, 29, 0, 0, 0, 0, 0, 0, []), some (.iload_n 3, 30, 0, 3, 0, 0, 0, 0, []), some (.ifCond .ge 9, 33, 39, 0, 0, 0, 0, 0, []), none]
def am_t_X8_row_2 : List (Option am_I) := [none, some (.aload_n 0, 34, 0, 0, 0, 0, 0, 0, []), some (.iconst 4, 35, 0, 0, 0, 0, 4, 0, []), some (.invokevirtual 85, 38, 8, 127, 1, 353, 0, 0, []), none, none, some (.ireturn, 39, 0, 0, 0, 0, 0, 0, []), some (.aload_n 0, 40, 0, 0, 0, 0, 0, 0, []), some (.getfield 13, 43, 0, 8, 0, 304, 0, 0, []), none, none, some (.iload_n 1, 44, 0, 1, 0, 0, 0, 0, []), some (.iload_n 2, 45, 0, 2, 0, 0, 0, 0, []), some (.iload_n 3, 46, 0, 3, 0, 0, 0, 0, []), some (.invokevirtual 89, 49, 6, 71, 3, 358, 0, 0, []), none]
def am_t_X8_row_3 : List (Option am_I) := [none, some (.aload_n 0, 50, 0, 0, 0, 0, 0, 0, []), some (.iload_n 3, 51, 0, 3, 0, 0, 0, 0, []), some (.invokevirtual 93, 54, 8, 128, 1, 362, 0, 0, []), none, none, some (.ireturn, 55, 0, 0, 0, 0, 0, 0, [])]
def am_t_X8_row : am_T := [am_t_X8_row_0, am_t_X8_row_1, am_t_X8_row_2, am_t_X8_row_3]
theorem am_q_X8_row_0 : am_okQ (am_ok1 am_mt yX8_row.cls yX8_row.name cX8_row 4 (some .int)) 0 am_t_X8_row_0 = true := by decide +kernel
theorem am_q_X8_row_1 : am_okQ (am_ok1 am_mt yX8_row.cls yX8_row.name cX8_row 4 (some .int)) 1 am_t_X8_row_1 = true := by decide +kernel
theorem am_q_X8_row_2 : am_okQ (am_ok1 am_mt yX8_row.cls yX8_row.name cX8_row 4 (some .int)) 2 am_t_X8_row_2 = true := by decide +kernel
theorem am_q_X8_row_3 : am_okQ (am_ok1 am_mt yX8_row.cls yX8_row.name cX8_row 4 (some .int)) 3 am_t_X8_row_3 = true := by decide +kernel
theorem am_q_X8_row : am_okT (am_ok1 am_mt yX8_row.cls yX8_row.name cX8_row 4 (some .int)) 0 am_t_X8_row = true := am_okT_c am_q_X8_row_0 (am_okT_c am_q_X8_row_1 (am_okT_c am_q_X8_row_2 (am_okT_c am_q_X8_row_3 (rfl))))
def am_m_X8_row : am_M := (yX8_row, cX8_row, 4, (some .int), 1, 347, 81, 345, 346, 3, am_t_X8_row)
theorem am_k_X8_row : am_okM am_mt am_m_X8_row := ⟨by decide +kernel, am_q_X8_row⟩
def am_t_X8_set_0 : List (Option am_I) := [some (.aload_n 0, 1, 0, 0, 0, 0, 0, 0, []), some (.getfield 13, 4, 0, 8, 0, 304, 0, 0, []), none, none, some (.iload_n 1, 5, 0, 1, 0, 0, 0, 0, []), some (.invokevirtual 80, 8, 6, 66, 1, 348, 0, 0, []), none, none, some (.ifCond .ne 6, 11, 14, 0, 0, 0, 0, 0, []), none, none, some (.ldc 84, 13, 0, 0, 0, 352, (-1000001), 0, []), none, some (.ireturn, 14, 0, 0, 0, 0, 0, 0, []), some (.aload_n 0, 15, 0, 0, 0, 0, 0, 0, []), some (.getfield 13, 18, 0, 8, 0, 304, 0, 0, [])]
def am_t_X8_set_1 : List (Option am_I) := [none, none, some (.iload_n 1, 19, 0, 1, 0, 0, 0, 0, []), some (.invokevirtual 96, 22, 6, 67, 1, 370, 0, 0, []), none, none, some (.ifCond .eq 9, 25, 31, 0, 0, 0, 0, 0, []), none, none, some (.aload_n 0, 26, 0, 0, 0, 0, 0, 0, []), some (.iconst 1, 27, 0, 0, 0, 0, 1, 0, []), some (.invokevirtual 85, 30, 8, 127, 1, 353, 0, 0, []), none, none, some (.ireturn, 31, 0, 0, 0, 0, 0, 0, []), some (.aload_n 0, 32, 0, 0, 0, 0, 0, 0, [])]
def am_t_X8_set_2 : List (Option am_I) := [some (.getfield 13, 35, 0, 8, 0, 304, 0, 0, []), none, none, some (.iload_n 1, 36, 0, 1, 0, 0, 0, 0, []), some (.iload_n 2, 37, 0, 2, 0, 0, 0, 0, []), some (.iconst 1, 38, 0, 0, 0, 0, 1, 0, []), some (.invokevirtual 99, 41, 6, 69, 3, 374, 0, 0, []), none, none, some (.ifCond .ne 9, 44, 50, 0, 0, 0, 0, 0, []), none, none, some (.aload_n 0, 45, 0, 0, 0, 0, 0, 0, []), some (.iconst 2, 46, 0, 0, 0, 0, 2, 0, []), some (.invokevirtual 85, 49, 8, 127, 1, 353, 0, 0, []), none]
def am_t_X8_set_3 : List (Option am_I) := [none, some (.ireturn, 50, 0, 0, 0, 0, 0, 0, []), some (.aload_n 0, 51, 0, 0, 0, 0, 0, 0, []), some (.aload_n 0, 52, 0, 0, 0, 0, 0, 0, []), some (.getfield 13, 55, 0, 8, 0, 304, 0, 0, []), none, none, some (.iload_n 1, 56, 0, 1, 0, 0, 0, 0, []), some (.iload_n 2, 57, 0, 2, 0, 0, 0, 0, []), some (.iload_n 3, 58, 0, 3, 0, 0, 0, 0, []), some (.invokevirtual 103, 61, 6, 73, 3, 378, 0, 0, []), none, none, some (.invokevirtual 93, 64, 8, 128, 1, 362, 0, 0, []), none, none]
def am_t_X8_set_4 : List (Option am_I) := [some (.ireturn, 65, 0, 0, 0, 0, 0, 0, [])]
def am_t_X8_set : am_T := [am_t_X8_set_0, am_t_X8_set_1, am_t_X8_set_2, am_t_X8_set_3, am_t_X8_set_4]
theorem am_q_X8_set_0 : am_okQ (am_ok1 am_mt yX8_set.cls yX8_set.name cX8_set 4 (some .int)) 0 am_t_X8_set_0 = true := by decide +kernel
theorem am_q_X8_set_1 : am_okQ (am_ok1 am_mt yX8_set.cls yX8_set.name cX8_set 4 (some .int)) 1 am_t_X8_set_1 = true := by decide +kernel
theorem am_q_X8_set_2 : am_okQ (am_ok1 am_mt yX8_set.cls yX8_set.name cX8_set 4 (some .int)) 2 am_t_X8_set_2 = true := by decide +kernel
theorem am_q_X8_set_3 : am_okQ (am_ok1 am_mt yX8_set.cls yX8_set.name cX8_set 4 (some .int)) 3 am_t_X8_set_3 = true := by decide +kernel
theorem am_q_X8_set_4 : am_okQ (am_ok1 am_mt yX8_set.cls yX8_set.name cX8_set 4 (some .int)) 4 am_t_X8_set_4 = true := by decide +kernel
theorem am_q_X8_set : am_okT (am_ok1 am_mt yX8_set.cls yX8_set.name cX8_set 4 (some .int)) 0 am_t_X8_set = true := am_okT_c am_q_X8_set_0 (am_okT_c am_q_X8_set_1 (am_okT_c am_q_X8_set_2 (am_okT_c am_q_X8_set_3 (am_okT_c am_q_X8_set_4 (rfl)))))
def am_m_X8_set : am_M := (yX8_set, cX8_set, 4, (some .int), 1, 369, 81, 367, 368, 3, am_t_X8_set)
theorem am_k_X8_set : am_okM am_mt am_m_X8_set := ⟨by decide +kernel, am_q_X8_set⟩
def am_t_X8_copy_0 : List (Option am_I) := [some (.aload_n 0, 1, 0, 0, 0, 0, 0, 0, []), some (.getfield 13, 4, 0, 8, 0, 304, 0, 0, []), none, none, some (.iload_n 1, 5, 0, 1, 0, 0, 0, 0, []), some (.invokevirtual 80, 8, 6, 66, 1, 348, 0, 0, []), none, none, some (.ifCond .eq 14, 11, 22, 0, 0, 0, 0, 0, []), none, none, some (.aload_n 0, 12, 0, 0, 0, 0, 0, 0, []), some (.getfield 13, 15, 0, 8, 0, 304, 0, 0, []), none, none, some (.iload_n 3, 16, 0, 3, 0, 0, 0, 0, [])]
def am_t_X8_copy_1 : List (Option am_I) := [some (.invokevirtual 80, 19, 6, 66, 1, 348, 0, 0, []), none, none, some (.ifCond .ne 6, 22, 25, 0, 0, 0, 0, 0, []), none, none, some (.ldc 84, 24, 0, 0, 0, 352, (-1000001), 0, []), none, some (.ireturn, 25, 0, 0, 0, 0, 0, 0, []), some (.aload_n 0, 26, 0, 0, 0, 0, 0, 0, []), some (.getfield 13, 29, 0, 8, 0, 304, 0, 0, []), none, none, some (.iload_n 1, 30, 0, 1, 0, 0, 0, 0, []), some (.invokevirtual 96, 33, 6, 67, 1, 370, 0, 0, []), none]
def am_t_X8_copy_2 : List (Option am_I) := [none, some (.ifCond .ne 14, 36, 47, 0, 0, 0, 0, 0, []), none, none, some (.aload_n 0, 37, 0, 0, 0, 0, 0, 0, []), some (.getfield 13, 40, 0, 8, 0, 304, 0, 0, []), none, none, some (.iload_n 3, 41, 0, 3, 0, 0, 0, 0, []), some (.invokevirtual 96, 44, 6, 67, 1, 370, 0, 0, []), none, none, some (.ifCond .eq 9, 47, 53, 0, 0, 0, 0, 0, []), none, none, some (.aload_n 0, 48, 0, 0, 0, 0, 0, 0, [])]
def am_t_X8_copy_3 : List (Option am_I) := [some (.iconst 1, 49, 0, 0, 0, 0, 1, 0, []), some (.invokevirtual 85, 52, 8, 127, 1, 353, 0, 0, []), none, none, some (.ireturn, 53, 0, 0, 0, 0, 0, 0, []), some (.aload_n 0, 54, 0, 0, 0, 0, 0, 0, []), some (.getfield 13, 57, 0, 8, 0, 304, 0, 0, []), none, none, some (.iload_n 1, 58, 0, 1, 0, 0, 0, 0, []), some (.iload_n 3, 59, 0, 3, 0, 0, 0, 0, []), some (.invokevirtual 107, 62, 6, 68, 2, 386, 0, 0, []), none, none, some (.ifCond .ne 9, 65, 71, 0, 0, 0, 0, 0, []), none]
def am_t_X8_copy_4 : List (Option am_I) := [none, some (.aload_n 0, 66, 0, 0, 0, 0, 0, 0, []), some (.iconst 5, 67, 0, 0, 0, 0, 5, 0, []), some (.invokevirtual 85, 70, 8, 127, 1, 353, 0, 0, []), none, none, some (.ireturn, 71, 0, 0, 0, 0, 0, 0, []), some (.aload_n 0, 72, 0, 0, 0, 0, 0, 0, []), some (.getfield 13, 75, 0, 8, 0, 304, 0, 0, []), none, none, some (.iload_n 1, 76, 0, 1, 0, 0, 0, 0, []), some (.iload_n 2, 77, 0, 2, 0, 0, 0, 0, []), some (.iload 5, 79, 0, 5, 0, 0, 0, 0, []), none, some (.invokevirtual 99, 82, 6, 69, 3, 374, 0, 0, [])]
def am_t_X8_copy_5 : List (Option am_I) := [none, none, some (.ifCond .eq 18, 85, 100, 0, 0, 0, 0, 0, []), none, none, some (.aload_n 0, 86, 0, 0, 0, 0, 0, 0, []), some (.getfield 13, 89, 0, 8, 0, 304, 0, 0, []), none, none, some (.iload_n 3, 90, 0, 3, 0, 0, 0, 0, []), some (.iload 4, 92, 0, 4, 0, 0, 0, 0, []), none, some (.iload 5, 94, 0, 5, 0, 0, 0, 0, []), none, some (.invokevirtual 99, 97, 6, 69, 3, 374, 0, 0, []), none]
def am_t_X8_copy_6 : List (Option am_I) := [none, some (.ifCond .ne 9, 100, 106, 0, 0, 0, 0, 0, []), none, none, some (.aload_n 0, 101, 0, 0, 0, 0, 0, 0, []), some (.iconst 2, 102, 0, 0, 0, 0, 2, 0, []), some (.invokevirtual 85, 105, 8, 127, 1, 353, 0, 0, []), none, none, some (.ireturn, 106, 0, 0, 0, 0, 0, 0, []), some (.aload_n 0, 107, 0, 0, 0, 0, 0, 0, []), some (.getfield 13, 110, 0, 8, 0, 304, 0, 0, []), none, none, some (.iload_n 1, 111, 0, 1, 0, 0, 0, 0, []), some (.iload_n 2, 112, 0, 2, 0, 0, 0, 0, [])]
def am_t_X8_copy_7 : List (Option am_I) := [some (.iload_n 3, 113, 0, 3, 0, 0, 0, 0, []), some (.iload 4, 115, 0, 4, 0, 0, 0, 0, []), none, some (.iload 5, 117, 0, 5, 0, 0, 0, 0, []), none, some (.invokevirtual 111, 120, 6, 74, 5, 390, 0, 0, []), none, none, some (.aload_n 0, 121, 0, 0, 0, 0, 0, 0, []), some (.iload 5, 123, 0, 5, 0, 0, 0, 0, []), none, some (.invokevirtual 93, 126, 8, 128, 1, 362, 0, 0, []), none, none, some (.ireturn, 127, 0, 0, 0, 0, 0, 0, [])]
def am_t_X8_copy : am_T := [am_t_X8_copy_0, am_t_X8_copy_1, am_t_X8_copy_2, am_t_X8_copy_3, am_t_X8_copy_4, am_t_X8_copy_5, am_t_X8_copy_6, am_t_X8_copy_7]
theorem am_q_X8_copy_0 : am_okQ (am_ok1 am_mt yX8_copy.cls yX8_copy.name cX8_copy 6 (some .int)) 0 am_t_X8_copy_0 = true := by decide +kernel
theorem am_q_X8_copy_1 : am_okQ (am_ok1 am_mt yX8_copy.cls yX8_copy.name cX8_copy 6 (some .int)) 1 am_t_X8_copy_1 = true := by decide +kernel
theorem am_q_X8_copy_2 : am_okQ (am_ok1 am_mt yX8_copy.cls yX8_copy.name cX8_copy 6 (some .int)) 2 am_t_X8_copy_2 = true := by decide +kernel
theorem am_q_X8_copy_3 : am_okQ (am_ok1 am_mt yX8_copy.cls yX8_copy.name cX8_copy 6 (some .int)) 3 am_t_X8_copy_3 = true := by decide +kernel
theorem am_q_X8_copy_4 : am_okQ (am_ok1 am_mt yX8_copy.cls yX8_copy.name cX8_copy 6 (some .int)) 4 am_t_X8_copy_4 = true := by decide +kernel
theorem am_q_X8_copy_5 : am_okQ (am_ok1 am_mt yX8_copy.cls yX8_copy.name cX8_copy 6 (some .int)) 5 am_t_X8_copy_5 = true := by decide +kernel
theorem am_q_X8_copy_6 : am_okQ (am_ok1 am_mt yX8_copy.cls yX8_copy.name cX8_copy 6 (some .int)) 6 am_t_X8_copy_6 = true := by decide +kernel
theorem am_q_X8_copy_7 : am_okQ (am_ok1 am_mt yX8_copy.cls yX8_copy.name cX8_copy 6 (some .int)) 7 am_t_X8_copy_7 = true := by decide +kernel
theorem am_q_X8_copy : am_okT (am_ok1 am_mt yX8_copy.cls yX8_copy.name cX8_copy 6 (some .int)) 0 am_t_X8_copy = true := am_okT_c am_q_X8_copy_0 (am_okT_c am_q_X8_copy_1 (am_okT_c am_q_X8_copy_2 (am_okT_c am_q_X8_copy_3 (am_okT_c am_q_X8_copy_4 (am_okT_c am_q_X8_copy_5 (am_okT_c am_q_X8_copy_6 (am_okT_c am_q_X8_copy_7 (rfl))))))))
def am_m_X8_copy : am_M := (yX8_copy, cX8_copy, 6, (some .int), 1, 385, 81, 383, 384, 5, am_t_X8_copy)
theorem am_k_X8_copy : am_okM am_mt am_m_X8_copy := ⟨by decide +kernel, am_q_X8_copy⟩
def am_ms3 : List am_M := [am_m_X6_make, am_m_X6_item, am_m_X6_put, am_m_X6_move, am_m_X6_lose, am_m_X7_init, am_m_X7_isFull, am_m_X7_append, am_m_X7_empty, am_m_X7_readInto, am_m_X7_readLaw, am_m_X7_readMotions, am_m_X7_readMotion, am_m_X7_readMembers, am_m_X7_readMember, am_m_X7_letterAt, am_m_X7_take, am_m_X7_takeNumber, am_m_X7_figuresAt, am_m_X7_isFigure, am_m_X7_sortOf, am_m_X8_init, am_m_X8_row, am_m_X8_set, am_m_X8_copy]
theorem am_ms3_ok : ∀ M ∈ am_ms3, am_okM am_mt M := List.forall_mem_cons.mpr ⟨am_k_X6_make, List.forall_mem_cons.mpr ⟨am_k_X6_item, List.forall_mem_cons.mpr ⟨am_k_X6_put, List.forall_mem_cons.mpr ⟨am_k_X6_move, List.forall_mem_cons.mpr ⟨am_k_X6_lose, List.forall_mem_cons.mpr ⟨am_k_X7_init, List.forall_mem_cons.mpr ⟨am_k_X7_isFull, List.forall_mem_cons.mpr ⟨am_k_X7_append, List.forall_mem_cons.mpr ⟨am_k_X7_empty, List.forall_mem_cons.mpr ⟨am_k_X7_readInto, List.forall_mem_cons.mpr ⟨am_k_X7_readLaw, List.forall_mem_cons.mpr ⟨am_k_X7_readMotions, List.forall_mem_cons.mpr ⟨am_k_X7_readMotion, List.forall_mem_cons.mpr ⟨am_k_X7_readMembers, List.forall_mem_cons.mpr ⟨am_k_X7_readMember, List.forall_mem_cons.mpr ⟨am_k_X7_letterAt, List.forall_mem_cons.mpr ⟨am_k_X7_take, List.forall_mem_cons.mpr ⟨am_k_X7_takeNumber, List.forall_mem_cons.mpr ⟨am_k_X7_figuresAt, List.forall_mem_cons.mpr ⟨am_k_X7_isFigure, List.forall_mem_cons.mpr ⟨am_k_X7_sortOf, List.forall_mem_cons.mpr ⟨am_k_X8_init, List.forall_mem_cons.mpr ⟨am_k_X8_row, List.forall_mem_cons.mpr ⟨am_k_X8_set, List.forall_mem_cons.mpr ⟨am_k_X8_copy, fun _ h => absurd h List.not_mem_nil⟩⟩⟩⟩⟩⟩⟩⟩⟩⟩⟩⟩⟩⟩⟩⟩⟩⟩⟩⟩⟩⟩⟩⟩⟩
end
section
def am_t_X8_drop_0 : List (Option am_I) := [some (.aload_n 0, 1, 0, 0, 0, 0, 0, 0, []), some (.getfield 13, 4, 0, 8, 0, 304, 0, 0, []), none, none, some (.iload_n 1, 5, 0, 1, 0, 0, 0, 0, []), some (.invokevirtual 80, 8, 6, 66, 1, 348, 0, 0, []), none, none, some (.ifCond .ne 6, 11, 14, 0, 0, 0, 0, 0, []), none, none, some (.ldc 84, 13, 0, 0, 0, 352, (-1000001), 0, []), none, some (.ireturn, 14, 0, 0, 0, 0, 0, 0, []), some (.aload_n 0, 15, 0, 0, 0, 0, 0, 0, []), some (.getfield 13, 18, 0, 8, 0, 304, 0, 0, [])]
def am_t_X8_drop_1 : List (Option am_I) := [none, none, some (.iload_n 1, 19, 0, 1, 0, 0, 0, 0, []), some (.invokevirtual 96, 22, 6, 67, 1, 370, 0, 0, []), none, none, some (.ifCond .eq 9, 25, 31, 0, 0, 0, 0, 0, []), none, none, some (.aload_n 0, 26, 0, 0, 0, 0, 0, 0, []), some (.iconst 1, 27, 0, 0, 0, 0, 1, 0, []), some (.invokevirtual 85, 30, 8, 127, 1, 353, 0, 0, []), none, none, some (.ireturn, 31, 0, 0, 0, 0, 0, 0, []), some (.aload_n 0, 32, 0, 0, 0, 0, 0, 0, [])]
def am_t_X8_drop_2 : List (Option am_I) := [some (.aload_n 0, 33, 0, 0, 0, 0, 0, 0, []), some (.getfield 13, 36, 0, 8, 0, 304, 0, 0, []), none, none, some (.iload_n 1, 37, 0, 1, 0, 0, 0, 0, []), some (.invokevirtual 115, 40, 6, 75, 1, 401, 0, 0, []), none, none, some (.invokevirtual 93, 43, 8, 128, 1, 362, 0, 0, []), none, none, some (.ireturn, 44, 0, 0, 0, 0, 0, 0, [])]
def am_t_X8_drop : am_T := [am_t_X8_drop_0, am_t_X8_drop_1, am_t_X8_drop_2]
theorem am_q_X8_drop_0 : am_okQ (am_ok1 am_mt yX8_drop.cls yX8_drop.name cX8_drop 2 (some .int)) 0 am_t_X8_drop_0 = true := by decide +kernel
theorem am_q_X8_drop_1 : am_okQ (am_ok1 am_mt yX8_drop.cls yX8_drop.name cX8_drop 2 (some .int)) 1 am_t_X8_drop_1 = true := by decide +kernel
theorem am_q_X8_drop_2 : am_okQ (am_ok1 am_mt yX8_drop.cls yX8_drop.name cX8_drop 2 (some .int)) 2 am_t_X8_drop_2 = true := by decide +kernel
theorem am_q_X8_drop : am_okT (am_ok1 am_mt yX8_drop.cls yX8_drop.name cX8_drop 2 (some .int)) 0 am_t_X8_drop = true := am_okT_c am_q_X8_drop_0 (am_okT_c am_q_X8_drop_1 (am_okT_c am_q_X8_drop_2 (rfl)))
def am_m_X8_drop : am_M := (yX8_drop, cX8_drop, 2, (some .int), 1, 400, 81, 398, 399, 1, am_t_X8_drop)
theorem am_k_X8_drop : am_okM am_mt am_m_X8_drop := ⟨by decide +kernel, am_q_X8_drop⟩
def am_t_X8_feed_0 : List (Option am_I) := [some (.iload_n 1, 1, 0, 1, 0, 0, 0, 0, []), some (.ifCond .lt 10, 4, 11, 0, 0, 0, 0, 0, []), none, none, some (.iload_n 1, 5, 0, 1, 0, 0, 0, 0, []), some (.sipush 255, 8, 0, 0, 0, 0, 255, 0, []), none, none, some (.if_icmp .le 6, 11, 14, 0, 0, 0, 0, 0, []), none, none, some (.ldc 84, 13, 0, 0, 0, 352, (-1000001), 0, []), none, some (.ireturn, 14, 0, 0, 0, 0, 0, 0, []), some (.aload_n 0, 15, 0, 0, 0, 0, 0, 0, []), some (.getfield 22, 18, 0, 8, 1, 305, 0, 0, [])]
def am_t_X8_feed_1 : List (Option am_I) := [none, none, some (.invokevirtual 118, 21, 7, 77, 0, 409, 0, 0, []), none, none, some (.ifCond .eq 6, 24, 27, 0, 0, 0, 0, 0, []), none, none, some (.ldc 122, 26, 0, 0, 0, 413, (-1000003), 0, []), none, some (.ireturn, 27, 0, 0, 0, 0, 0, 0, []), some (.aload_n 0, 28, 0, 0, 0, 0, 0, 0, []), some (.getfield 22, 31, 0, 8, 1, 305, 0, 0, []), none, none, some (.iload_n 1, 32, 0, 1, 0, 0, 0, 0, [])]
def am_t_X8_feed_2 : List (Option am_I) := [some (.invokevirtual 123, 35, 7, 78, 1, 414, 0, 0, []), none, none, some (.ireturn, 36, 0, 0, 0, 0, 0, 0, [])]
def am_t_X8_feed : am_T := [am_t_X8_feed_0, am_t_X8_feed_1, am_t_X8_feed_2]
theorem am_q_X8_feed_0 : am_okQ (am_ok1 am_mt yX8_feed.cls yX8_feed.name cX8_feed 2 (some .int)) 0 am_t_X8_feed_0 = true := by decide +kernel
theorem am_q_X8_feed_1 : am_okQ (am_ok1 am_mt yX8_feed.cls yX8_feed.name cX8_feed 2 (some .int)) 1 am_t_X8_feed_1 = true := by decide +kernel
theorem am_q_X8_feed_2 : am_okQ (am_ok1 am_mt yX8_feed.cls yX8_feed.name cX8_feed 2 (some .int)) 2 am_t_X8_feed_2 = true := by decide +kernel
theorem am_q_X8_feed : am_okT (am_ok1 am_mt yX8_feed.cls yX8_feed.name cX8_feed 2 (some .int)) 0 am_t_X8_feed = true := am_okT_c am_q_X8_feed_0 (am_okT_c am_q_X8_feed_1 (am_okT_c am_q_X8_feed_2 (rfl)))
def am_m_X8_feed : am_M := (yX8_feed, cX8_feed, 2, (some .int), 1, 408, 81, 406, 407, 1, am_t_X8_feed)
theorem am_k_X8_feed : am_okM am_mt am_m_X8_feed := ⟨by decide +kernel, am_q_X8_feed⟩
def am_t_X8_hill_0 : List (Option am_I) := [some (.aload_n 0, 1, 0, 0, 0, 0, 0, 0, []), some (.getfield 22, 4, 0, 8, 1, 305, 0, 0, []), none, none, some (.aload_n 0, 5, 0, 0, 0, 0, 0, 0, []), some (.getfield 30, 8, 0, 8, 3, 307, 0, 0, []), none, none, some (.invokevirtual 126, 11, 7, 80, 1, 422, 0, 0, []), none, none, some (.aload_n 0, 12, 0, 0, 0, 0, 0, 0, []), some (.getfield 22, 15, 0, 8, 1, 305, 0, 0, []), none, none, some (.invokevirtual 129, 18, 7, 79, 0, 480, 0, 0, [])]
def am_t_X8_hill_1 : List (Option am_I) := [none, none, some (.aload_n 0, 19, 0, 0, 0, 0, 0, 0, []), some (.getfield 22, 22, 0, 8, 1, 305, 0, 0, []), none, none, some (.getfield 132, 25, 0, 7, 3, 198, 0, 0, []), none, none, some (.ifCond .eq 25, 28, 50, 0, 0, 0, 0, 0, []), none, none, some (.aload_n 0, 29, 0, 0, 0, 0, 0, 0, []), some (.aload_n 0, 30, 0, 0, 0, 0, 0, 0, []), some (.getfield 22, 33, 0, 8, 1, 305, 0, 0, []), none]
def am_t_X8_hill_2 : List (Option am_I) := [none, some (.getfield 132, 36, 0, 7, 3, 198, 0, 0, []), none, none, some (.putfield 136, 39, 0, 8, 11, 315, 0, 0, []), none, none, some (.ldc 139, 41, 0, 0, 0, 484, (-1000100), 0, []), none, some (.aload_n 0, 42, 0, 0, 0, 0, 0, 0, []), some (.getfield 22, 45, 0, 8, 1, 305, 0, 0, []), none, none, some (.getfield 140, 48, 0, 7, 2, 196, 0, 0, []), none, none]
def am_t_X8_hill_3 : List (Option am_I) := [some (.isub, 49, 0, 0, 0, 0, 0, 0, []), some (.ireturn, 50, 0, 0, 0, 0, 0, 0, []), some (.aload_n 0, 51, 0, 0, 0, 0, 0, 0, []), some (.getfield 26, 54, 0, 8, 2, 306, 0, 0, []), none, none, some (.aload_n 0, 55, 0, 0, 0, 0, 0, 0, []), some (.getfield 30, 58, 0, 8, 3, 307, 0, 0, []), none, none, some (.invokevirtual 143, 61, 3, 38, 1, 485, 0, 0, []), none, none, some (.aload_n 0, 62, 0, 0, 0, 0, 0, 0, []), some (.getfield 42, 65, 0, 8, 6, 310, 0, 0, []), none]
def am_t_X8_hill_4 : List (Option am_I) := [none, some (.invokevirtual 146, 68, 0, 1, 0, 489, 0, 0, []), none, none, some (.aload_n 0, 69, 0, 0, 0, 0, 0, 0, []), some (.getfield 26, 72, 0, 8, 2, 306, 0, 0, []), none, none, some (.getfield 149, 75, 0, 3, 3, 137, 0, 0, []), none, none, some (.ireturn, 76, 0, 0, 0, 0, 0, 0, [])]
def am_t_X8_hill : am_T := [am_t_X8_hill_0, am_t_X8_hill_1, am_t_X8_hill_2, am_t_X8_hill_3, am_t_X8_hill_4]
theorem am_q_X8_hill_0 : am_okQ (am_ok1 am_mt yX8_hill.cls yX8_hill.name cX8_hill 1 (some .int)) 0 am_t_X8_hill_0 = true := by decide +kernel
theorem am_q_X8_hill_1 : am_okQ (am_ok1 am_mt yX8_hill.cls yX8_hill.name cX8_hill 1 (some .int)) 1 am_t_X8_hill_1 = true := by decide +kernel
theorem am_q_X8_hill_2 : am_okQ (am_ok1 am_mt yX8_hill.cls yX8_hill.name cX8_hill 1 (some .int)) 2 am_t_X8_hill_2 = true := by decide +kernel
theorem am_q_X8_hill_3 : am_okQ (am_ok1 am_mt yX8_hill.cls yX8_hill.name cX8_hill 1 (some .int)) 3 am_t_X8_hill_3 = true := by decide +kernel
theorem am_q_X8_hill_4 : am_okQ (am_ok1 am_mt yX8_hill.cls yX8_hill.name cX8_hill 1 (some .int)) 4 am_t_X8_hill_4 = true := by decide +kernel
theorem am_q_X8_hill : am_okT (am_ok1 am_mt yX8_hill.cls yX8_hill.name cX8_hill 1 (some .int)) 0 am_t_X8_hill = true := am_okT_c am_q_X8_hill_0 (am_okT_c am_q_X8_hill_1 (am_okT_c am_q_X8_hill_2 (am_okT_c am_q_X8_hill_3 (am_okT_c am_q_X8_hill_4 (rfl)))))
def am_m_X8_hill : am_M := (yX8_hill, cX8_hill, 1, (some .int), 1, 421, 81, 419, 420, 0, am_t_X8_hill)
theorem am_k_X8_hill : am_okM am_mt am_m_X8_hill := ⟨by decide +kernel, am_q_X8_hill⟩
def am_t_X8_fault_0 : List (Option am_I) := [some (.aload_n 0, 1, 0, 0, 0, 0, 0, 0, []), some (.getfield 136, 4, 0, 8, 11, 315, 0, 0, []), none, none, some (.ireturn, 5, 0, 0, 0, 0, 0, 0, [])]
def am_t_X8_fault : am_T := [am_t_X8_fault_0]
theorem am_q_X8_fault_0 : am_okQ (am_ok1 am_mt yX8_fault.cls yX8_fault.name cX8_fault 1 (some .int)) 0 am_t_X8_fault_0 = true := by decide +kernel
theorem am_q_X8_fault : am_okT (am_ok1 am_mt yX8_fault.cls yX8_fault.name cX8_fault 1 (some .int)) 0 am_t_X8_fault = true := am_okT_c am_q_X8_fault_0 (rfl)
def am_m_X8_fault : am_M := (yX8_fault, cX8_fault, 1, (some .int), 1, 496, 81, 494, 495, 0, am_t_X8_fault)
theorem am_k_X8_fault : am_okM am_mt am_m_X8_fault := ⟨by decide +kernel, am_q_X8_fault⟩
def am_t_X8_speak_0 : List (Option am_I) := [some (.aload_n 0, 1, 0, 0, 0, 0, 0, 0, []), some (.getfield 26, 4, 0, 8, 2, 306, 0, 0, []), none, none, some (.getfield 152, 7, 0, 3, 0, 127, 0, 0, []), none, none, some (.ifCond .ne 6, 10, 13, 0, 0, 0, 0, 0, []), none, none, some (.ldc 156, 12, 0, 0, 0, 501, (-1000002), 0, []), none, some (.ireturn, 13, 0, 0, 0, 0, 0, 0, []), some (.aload_n 0, 14, 0, 0, 0, 0, 0, 0, []), some (.getfield 26, 17, 0, 8, 2, 306, 0, 0, []), none]
def am_t_X8_speak_1 : List (Option am_I) := [none, some (.iload_n 1, 18, 0, 1, 0, 0, 0, 0, []), some (.invokevirtual 157, 21, 3, 41, 1, 502, 0, 0, []), none, none, some (.ifCond .ne 6, 24, 27, 0, 0, 0, 0, 0, []), none, none, some (.ldc 84, 26, 0, 0, 0, 352, (-1000001), 0, []), none, some (.ireturn, 27, 0, 0, 0, 0, 0, 0, []), some (.aload_n 0, 28, 0, 0, 0, 0, 0, 0, []), some (.getfield 26, 31, 0, 8, 2, 306, 0, 0, []), none, none, some (.invokevirtual 160, 34, 3, 45, 0, 506, 0, 0, [])]
def am_t_X8_speak_2 : List (Option am_I) := [none, none, some (.istore_n 2, 35, 0, 2, 0, 0, 0, 0, []), some (.iload_n 1, 36, 0, 1, 0, 0, 0, 0, []), some (.iload_n 2, 37, 0, 2, 0, 0, 0, 0, []), some (.iconst (-1), 38, 0, 0, 0, 0, (-1), 0, []), some (.ixor, 39, 0, 0, 0, 0, 0, 0, []), some (.iand, 40, 0, 0, 0, 0, 0, 0, []), some (.ifCond .eq 6, 43, 46, 0, 0, 0, 0, 0, []), none, none, some (.ldc 156, 45, 0, 0, 0, 501, (-1000002), 0, []), none, some (.ireturn, 46, 0, 0, 0, 0, 0, 0, []), some (.aload_n 0, 47, 0, 0, 0, 0, 0, 0, []), some (.getfield 26, 50, 0, 8, 2, 306, 0, 0, [])]
def am_t_X8_speak_3 : List (Option am_I) := [none, none, some (.getfield 164, 53, 0, 3, 4, 143, 0, 0, []), none, none, some (.sipush 999, 56, 0, 0, 0, 0, 999, 0, []), none, none, some (.if_icmp .lt 6, 59, 62, 0, 0, 0, 0, 0, []), none, none, some (.ldc 122, 61, 0, 0, 0, 413, (-1000003), 0, []), none, some (.ireturn, 62, 0, 0, 0, 0, 0, 0, []), some (.aload_n 0, 63, 0, 0, 0, 0, 0, 0, []), some (.getfield 42, 66, 0, 8, 6, 310, 0, 0, [])]
def am_t_X8_speak_4 : List (Option am_I) := [none, none, some (.aload_n 0, 67, 0, 0, 0, 0, 0, 0, []), some (.getfield 26, 70, 0, 8, 2, 306, 0, 0, []), none, none, some (.invokevirtual 167, 73, 0, 2, 1, 514, 0, 0, []), none, none, some (.aload_n 0, 74, 0, 0, 0, 0, 0, 0, []), some (.getfield 26, 77, 0, 8, 2, 306, 0, 0, []), none, none, some (.iload_n 1, 78, 0, 1, 0, 0, 0, 0, []), some (.iload_n 2, 79, 0, 2, 0, 0, 0, 0, []), some (.invokevirtual 170, 82, 3, 51, 2, 521, 0, 0, [])]
def am_t_X8_speak_5 : List (Option am_I) := [none, none, some (.ireturn, 83, 0, 0, 0, 0, 0, 0, [])]
def am_t_X8_speak : am_T := [am_t_X8_speak_0, am_t_X8_speak_1, am_t_X8_speak_2, am_t_X8_speak_3, am_t_X8_speak_4, am_t_X8_speak_5]
theorem am_q_X8_speak_0 : am_okQ (am_ok1 am_mt yX8_speak.cls yX8_speak.name cX8_speak 3 (some .int)) 0 am_t_X8_speak_0 = true := by decide +kernel
theorem am_q_X8_speak_1 : am_okQ (am_ok1 am_mt yX8_speak.cls yX8_speak.name cX8_speak 3 (some .int)) 1 am_t_X8_speak_1 = true := by decide +kernel
theorem am_q_X8_speak_2 : am_okQ (am_ok1 am_mt yX8_speak.cls yX8_speak.name cX8_speak 3 (some .int)) 2 am_t_X8_speak_2 = true := by decide +kernel
theorem am_q_X8_speak_3 : am_okQ (am_ok1 am_mt yX8_speak.cls yX8_speak.name cX8_speak 3 (some .int)) 3 am_t_X8_speak_3 = true := by decide +kernel
theorem am_q_X8_speak_4 : am_okQ (am_ok1 am_mt yX8_speak.cls yX8_speak.name cX8_speak 3 (some .int)) 4 am_t_X8_speak_4 = true := by decide +kernel
theorem am_q_X8_speak_5 : am_okQ (am_ok1 am_mt yX8_speak.cls yX8_speak.name cX8_speak 3 (some .int)) 5 am_t_X8_speak_5 = true := by decide +kernel
theorem am_q_X8_speak : am_okT (am_ok1 am_mt yX8_speak.cls yX8_speak.name cX8_speak 3 (some .int)) 0 am_t_X8_speak = true := am_okT_c am_q_X8_speak_0 (am_okT_c am_q_X8_speak_1 (am_okT_c am_q_X8_speak_2 (am_okT_c am_q_X8_speak_3 (am_okT_c am_q_X8_speak_4 (am_okT_c am_q_X8_speak_5 (rfl))))))
def am_m_X8_speak : am_M := (yX8_speak, cX8_speak, 3, (some .int), 1, 500, 81, 498, 499, 1, am_t_X8_speak)
theorem am_k_X8_speak : am_okM am_mt am_m_X8_speak := ⟨by decide +kernel, am_q_X8_speak⟩
def am_t_X8_lozenge_0 : List (Option am_I) := [some (.aload_n 0, 1, 0, 0, 0, 0, 0, 0, []), some (.getfield 26, 4, 0, 8, 2, 306, 0, 0, []), none, none, some (.iload_n 1, 5, 0, 1, 0, 0, 0, 0, []), some (.invokevirtual 174, 8, 3, 39, 1, 552, 0, 0, []), none, none, some (.ifCond .ne 6, 11, 14, 0, 0, 0, 0, 0, []), none, none, some (.ldc 84, 13, 0, 0, 0, 352, (-1000001), 0, []), none, some (.ireturn, 14, 0, 0, 0, 0, 0, 0, []), some (.aload_n 0, 15, 0, 0, 0, 0, 0, 0, []), some (.getfield 42, 18, 0, 8, 6, 310, 0, 0, [])]
def am_t_X8_lozenge_1 : List (Option am_I) := [none, none, some (.aload_n 0, 19, 0, 0, 0, 0, 0, 0, []), some (.getfield 26, 22, 0, 8, 2, 306, 0, 0, []), none, none, some (.invokevirtual 167, 25, 0, 2, 1, 514, 0, 0, []), none, none, some (.aload_n 0, 26, 0, 0, 0, 0, 0, 0, []), some (.getfield 26, 29, 0, 8, 2, 306, 0, 0, []), none, none, some (.getfield 177, 32, 0, 3, 8, 159, 0, 0, []), none, none]
def am_t_X8_lozenge_2 : List (Option am_I) := [some (.iload_n 1, 33, 0, 1, 0, 0, 0, 0, []), some (.aload_n 0, 34, 0, 0, 0, 0, 0, 0, []), some (.getfield 26, 37, 0, 8, 2, 306, 0, 0, []), none, none, some (.getfield 177, 40, 0, 3, 8, 159, 0, 0, []), none, none, some (.iload_n 1, 41, 0, 1, 0, 0, 0, 0, []), some (.iaload, 42, 0, 0, 0, 0, 0, 0, []), some (.iconst 1, 43, 0, 0, 0, 0, 1, 0, []), some (.invokestatic 181, 46, 0, 133, 2, 556, 0, 0, []), none, none, some (.iastore, 47, 0, 0, 0, 0, 0, 0, []), some (.aload_n 0, 48, 0, 0, 0, 0, 0, 0, [])]
def am_t_X8_lozenge_3 : List (Option am_I) := [some (.getfield 26, 51, 0, 8, 2, 306, 0, 0, []), none, none, some (.getfield 177, 54, 0, 3, 8, 159, 0, 0, []), none, none, some (.iload_n 1, 55, 0, 1, 0, 0, 0, 0, []), some (.iaload, 56, 0, 0, 0, 0, 0, 0, []), some (.ireturn, 57, 0, 0, 0, 0, 0, 0, [])]
def am_t_X8_lozenge : am_T := [am_t_X8_lozenge_0, am_t_X8_lozenge_1, am_t_X8_lozenge_2, am_t_X8_lozenge_3]
theorem am_q_X8_lozenge_0 : am_okQ (am_ok1 am_mt yX8_lozenge.cls yX8_lozenge.name cX8_lozenge 2 (some .int)) 0 am_t_X8_lozenge_0 = true := by decide +kernel
theorem am_q_X8_lozenge_1 : am_okQ (am_ok1 am_mt yX8_lozenge.cls yX8_lozenge.name cX8_lozenge 2 (some .int)) 1 am_t_X8_lozenge_1 = true := by decide +kernel
theorem am_q_X8_lozenge_2 : am_okQ (am_ok1 am_mt yX8_lozenge.cls yX8_lozenge.name cX8_lozenge 2 (some .int)) 2 am_t_X8_lozenge_2 = true := by decide +kernel
theorem am_q_X8_lozenge_3 : am_okQ (am_ok1 am_mt yX8_lozenge.cls yX8_lozenge.name cX8_lozenge 2 (some .int)) 3 am_t_X8_lozenge_3 = true := by decide +kernel
theorem am_q_X8_lozenge : am_okT (am_ok1 am_mt yX8_lozenge.cls yX8_lozenge.name cX8_lozenge 2 (some .int)) 0 am_t_X8_lozenge = true := am_okT_c am_q_X8_lozenge_0 (am_okT_c am_q_X8_lozenge_1 (am_okT_c am_q_X8_lozenge_2 (am_okT_c am_q_X8_lozenge_3 (rfl))))
def am_m_X8_lozenge : am_M := (yX8_lozenge, cX8_lozenge, 2, (some .int), 1, 551, 81, 549, 550, 1, am_t_X8_lozenge)
theorem am_k_X8_lozenge : am_okM am_mt am_m_X8_lozenge := ⟨by decide +kernel, am_q_X8_lozenge⟩
def am_t_X8_cold_0 : List (Option am_I) := [some (.aload_n 0, 1, 0, 0, 0, 0, 0, 0, []), some (.getfield 26, 4, 0, 8, 2, 306, 0, 0, []), none, none, some (.iload_n 1, 5, 0, 1, 0, 0, 0, 0, []), some (.invokevirtual 174, 8, 3, 39, 1, 552, 0, 0, []), none, none, some (.ifCond .eq 13, 11, 21, 0, 0, 0, 0, 0, []), none, none, some (.iload_n 2, 12, 0, 2, 0, 0, 0, 0, []), some (.ifCond .lt 9, 15, 21, 0, 0, 0, 0, 0, []), none, none, some (.iload_n 2, 16, 0, 2, 0, 0, 0, 0, [])]
def am_t_X8_cold_1 : List (Option am_I) := [some (.bipush 20, 18, 0, 0, 0, 0, 20, 0, []), none, some (.if_icmp .le 6, 21, 24, 0, 0, 0, 0, 0, []), none, none, some (.ldc 84, 23, 0, 0, 0, 352, (-1000001), 0, []), none, some (.ireturn, 24, 0, 0, 0, 0, 0, 0, []), some (.aload_n 0, 25, 0, 0, 0, 0, 0, 0, []), some (.getfield 42, 28, 0, 8, 6, 310, 0, 0, []), none, none, some (.aload_n 0, 29, 0, 0, 0, 0, 0, 0, []), some (.getfield 26, 32, 0, 8, 2, 306, 0, 0, []), none, none]
def am_t_X8_cold_2 : List (Option am_I) := [some (.invokevirtual 167, 35, 0, 2, 1, 514, 0, 0, []), none, none, some (.aload_n 0, 36, 0, 0, 0, 0, 0, 0, []), some (.getfield 26, 39, 0, 8, 2, 306, 0, 0, []), none, none, some (.getfield 177, 42, 0, 3, 8, 159, 0, 0, []), none, none, some (.iload_n 1, 43, 0, 1, 0, 0, 0, 0, []), some (.iaload, 44, 0, 0, 0, 0, 0, 0, []), some (.istore_n 3, 45, 0, 3, 0, 0, 0, 0, []), some (.aload_n 0, 46, 0, 0, 0, 0, 0, 0, []), some (.getfield 26, 49, 0, 8, 2, 306, 0, 0, []), none]
def am_t_X8_cold_3 : List (Option am_I) := [none, some (.getfield 177, 52, 0, 3, 8, 159, 0, 0, []), none, none, some (.iload_n 1, 53, 0, 1, 0, 0, 0, 0, []), some (.iload_n 2, 54, 0, 2, 0, 0, 0, 0, []), some (.iastore, 55, 0, 0, 0, 0, 0, 0, []), some (.iload_n 3, 56, 0, 3, 0, 0, 0, 0, []), some (.ireturn, 57, 0, 0, 0, 0, 0, 0, [])]
def am_t_X8_cold : am_T := [am_t_X8_cold_0, am_t_X8_cold_1, am_t_X8_cold_2, am_t_X8_cold_3]
theorem am_q_X8_cold_0 : am_okQ (am_ok1 am_mt yX8_cold.cls yX8_cold.name cX8_cold 4 (some .int)) 0 am_t_X8_cold_0 = true := by decide +kernel
theorem am_q_X8_cold_1 : am_okQ (am_ok1 am_mt yX8_cold.cls yX8_cold.name cX8_cold 4 (some .int)) 1 am_t_X8_cold_1 = true := by decide +kernel
theorem am_q_X8_cold_2 : am_okQ (am_ok1 am_mt yX8_cold.cls yX8_cold.name cX8_cold 4 (some .int)) 2 am_t_X8_cold_2 = true := by decide +kernel
theorem am_q_X8_cold_3 : am_okQ (am_ok1 am_mt yX8_cold.cls yX8_cold.name cX8_cold 4 (some .int)) 3 am_t_X8_cold_3 = true := by decide +kernel
theorem am_q_X8_cold : am_okT (am_ok1 am_mt yX8_cold.cls yX8_cold.name cX8_cold 4 (some .int)) 0 am_t_X8_cold = true := am_okT_c am_q_X8_cold_0 (am_okT_c am_q_X8_cold_1 (am_okT_c am_q_X8_cold_2 (am_okT_c am_q_X8_cold_3 (rfl))))
def am_m_X8_cold : am_M := (yX8_cold, cX8_cold, 4, (some .int), 1, 563, 81, 561, 562, 2, am_t_X8_cold)
theorem am_k_X8_cold : am_okM am_mt am_m_X8_cold := ⟨by decide +kernel, am_q_X8_cold⟩
def am_t_X8_needs_0 : List (Option am_I) := [some (.aload_n 0, 1, 0, 0, 0, 0, 0, 0, []), some (.getfield 26, 4, 0, 8, 2, 306, 0, 0, []), none, none, some (.iload_n 1, 5, 0, 1, 0, 0, 0, 0, []), some (.invokevirtual 184, 8, 3, 40, 1, 568, 0, 0, []), none, none, some (.ifCond .eq 13, 11, 21, 0, 0, 0, 0, 0, []), none, none, some (.iload_n 2, 12, 0, 2, 0, 0, 0, 0, []), some (.ifCond .lt 9, 15, 21, 0, 0, 0, 0, 0, []), none, none, some (.iload_n 2, 16, 0, 2, 0, 0, 0, 0, [])]
def am_t_X8_needs_1 : List (Option am_I) := [some (.bipush 99, 18, 0, 0, 0, 0, 99, 0, []), none, some (.if_icmp .le 6, 21, 24, 0, 0, 0, 0, 0, []), none, none, some (.ldc 84, 23, 0, 0, 0, 352, (-1000001), 0, []), none, some (.ireturn, 24, 0, 0, 0, 0, 0, 0, []), some (.aload_n 0, 25, 0, 0, 0, 0, 0, 0, []), some (.getfield 42, 28, 0, 8, 6, 310, 0, 0, []), none, none, some (.aload_n 0, 29, 0, 0, 0, 0, 0, 0, []), some (.getfield 26, 32, 0, 8, 2, 306, 0, 0, []), none, none]
def am_t_X8_needs_2 : List (Option am_I) := [some (.invokevirtual 167, 35, 0, 2, 1, 514, 0, 0, []), none, none, some (.aload_n 0, 36, 0, 0, 0, 0, 0, 0, []), some (.getfield 26, 39, 0, 8, 2, 306, 0, 0, []), none, none, some (.getfield 187, 42, 0, 3, 6, 150, 0, 0, []), none, none, some (.iload_n 1, 43, 0, 1, 0, 0, 0, 0, []), some (.iaload, 44, 0, 0, 0, 0, 0, 0, []), some (.istore_n 3, 45, 0, 3, 0, 0, 0, 0, []), some (.aload_n 0, 46, 0, 0, 0, 0, 0, 0, []), some (.getfield 26, 49, 0, 8, 2, 306, 0, 0, []), none]
def am_t_X8_needs_3 : List (Option am_I) := [none, some (.getfield 187, 52, 0, 3, 6, 150, 0, 0, []), none, none, some (.iload_n 1, 53, 0, 1, 0, 0, 0, 0, []), some (.iload_n 2, 54, 0, 2, 0, 0, 0, 0, []), some (.iastore, 55, 0, 0, 0, 0, 0, 0, []), some (.iload_n 3, 56, 0, 3, 0, 0, 0, 0, []), some (.ireturn, 57, 0, 0, 0, 0, 0, 0, [])]
def am_t_X8_needs : am_T := [am_t_X8_needs_0, am_t_X8_needs_1, am_t_X8_needs_2, am_t_X8_needs_3]
theorem am_q_X8_needs_0 : am_okQ (am_ok1 am_mt yX8_needs.cls yX8_needs.name cX8_needs 4 (some .int)) 0 am_t_X8_needs_0 = true := by decide +kernel
theorem am_q_X8_needs_1 : am_okQ (am_ok1 am_mt yX8_needs.cls yX8_needs.name cX8_needs 4 (some .int)) 1 am_t_X8_needs_1 = true := by decide +kernel
theorem am_q_X8_needs_2 : am_okQ (am_ok1 am_mt yX8_needs.cls yX8_needs.name cX8_needs 4 (some .int)) 2 am_t_X8_needs_2 = true := by decide +kernel
theorem am_q_X8_needs_3 : am_okQ (am_ok1 am_mt yX8_needs.cls yX8_needs.name cX8_needs 4 (some .int)) 3 am_t_X8_needs_3 = true := by decide +kernel
theorem am_q_X8_needs : am_okT (am_ok1 am_mt yX8_needs.cls yX8_needs.name cX8_needs 4 (some .int)) 0 am_t_X8_needs = true := am_okT_c am_q_X8_needs_0 (am_okT_c am_q_X8_needs_1 (am_okT_c am_q_X8_needs_2 (am_okT_c am_q_X8_needs_3 (rfl))))
def am_m_X8_needs : am_M := (yX8_needs, cX8_needs, 4, (some .int), 1, 567, 81, 565, 566, 2, am_t_X8_needs)
theorem am_k_X8_needs : am_okM am_mt am_m_X8_needs := ⟨by decide +kernel, am_q_X8_needs⟩
def am_t_X8_undo_0 : List (Option am_I) := [some (.aload_n 0, 1, 0, 0, 0, 0, 0, 0, []), some (.getfield 42, 4, 0, 8, 6, 310, 0, 0, []), none, none, some (.getfield 190, 7, 0, 0, 1, 216, 0, 0, []), none, none, some (.ifCond .ne 6, 10, 13, 0, 0, 0, 0, 0, []), none, none, some (.ldc 156, 12, 0, 0, 0, 501, (-1000002), 0, []), none, some (.ireturn, 13, 0, 0, 0, 0, 0, 0, []), some (.aload_n 0, 14, 0, 0, 0, 0, 0, 0, []), some (.getfield 42, 17, 0, 8, 6, 310, 0, 0, []), none]
def am_t_X8_undo_1 : List (Option am_I) := [none, some (.aload_n 0, 18, 0, 0, 0, 0, 0, 0, []), some (.getfield 26, 21, 0, 8, 2, 306, 0, 0, []), none, none, some (.invokevirtual 193, 24, 0, 3, 1, 576, 0, 0, []), none, none, some (.aload_n 0, 25, 0, 0, 0, 0, 0, 0, []), some (.getfield 42, 28, 0, 8, 6, 310, 0, 0, []), none, none, some (.getfield 190, 31, 0, 0, 1, 216, 0, 0, []), none, none, some (.ireturn, 32, 0, 0, 0, 0, 0, 0, [])]
def am_t_X8_undo : am_T := [am_t_X8_undo_0, am_t_X8_undo_1]
theorem am_q_X8_undo_0 : am_okQ (am_ok1 am_mt yX8_undo.cls yX8_undo.name cX8_undo 1 (some .int)) 0 am_t_X8_undo_0 = true := by decide +kernel
theorem am_q_X8_undo_1 : am_okQ (am_ok1 am_mt yX8_undo.cls yX8_undo.name cX8_undo 1 (some .int)) 1 am_t_X8_undo_1 = true := by decide +kernel
theorem am_q_X8_undo : am_okT (am_ok1 am_mt yX8_undo.cls yX8_undo.name cX8_undo 1 (some .int)) 0 am_t_X8_undo = true := am_okT_c am_q_X8_undo_0 (am_okT_c am_q_X8_undo_1 (rfl))
def am_m_X8_undo : am_M := (yX8_undo, cX8_undo, 1, (some .int), 1, 575, 81, 573, 574, 0, am_t_X8_undo)
theorem am_k_X8_undo : am_okM am_mt am_m_X8_undo := ⟨by decide +kernel, am_q_X8_undo⟩
def am_t_X8_member_0 : List (Option am_I) := [some (.aload_n 0, 1, 0, 0, 0, 0, 0, 0, []), some (.getfield 26, 4, 0, 8, 2, 306, 0, 0, []), none, none, some (.iload_n 1, 5, 0, 1, 0, 0, 0, 0, []), some (.invokevirtual 174, 8, 3, 39, 1, 552, 0, 0, []), none, none, some (.ifCond .ne 6, 11, 14, 0, 0, 0, 0, 0, []), none, none, some (.ldc 84, 13, 0, 0, 0, 352, (-1000001), 0, []), none, some (.ireturn, 14, 0, 0, 0, 0, 0, 0, []), some (.iload_n 2, 15, 0, 2, 0, 0, 0, 0, []), some (.tableswitch 90 0 4 #[33, 43, 53, 65, 81], 48, 105, 0, 0, 0, 0, 0, [(0, 48), (1, 58), (2, 68), (3, 80), (4, 96)])]
def am_t_X8_member_1 : List (Option am_I) := [none, none, none, none, none, none, none, none, none, none, none, none, none, none, none, none]
def am_t_X8_member_2 : List (Option am_I) := [none, none, none, none, none, none, none, none, none, none, none, none, none, none, none, none]
def am_t_X8_member_3 : List (Option am_I) := [some (.aload_n 0, 49, 0, 0, 0, 0, 0, 0, []), some (.getfield 26, 52, 0, 8, 2, 306, 0, 0, []), none, none, some (.getfield 177, 55, 0, 3, 8, 159, 0, 0, []), none, none, some (.iload_n 1, 56, 0, 1, 0, 0, 0, 0, []), some (.iaload, 57, 0, 0, 0, 0, 0, 0, []), some (.ireturn, 58, 0, 0, 0, 0, 0, 0, []), some (.aload_n 0, 59, 0, 0, 0, 0, 0, 0, []), some (.getfield 26, 62, 0, 8, 2, 306, 0, 0, []), none, none, some (.getfield 196, 65, 0, 3, 9, 164, 0, 0, []), none]
def am_t_X8_member_4 : List (Option am_I) := [none, some (.iload_n 1, 66, 0, 1, 0, 0, 0, 0, []), some (.iaload, 67, 0, 0, 0, 0, 0, 0, []), some (.ireturn, 68, 0, 0, 0, 0, 0, 0, []), some (.aload_n 0, 69, 0, 0, 0, 0, 0, 0, []), some (.getfield 26, 72, 0, 8, 2, 306, 0, 0, []), none, none, some (.invokevirtual 160, 75, 3, 45, 0, 506, 0, 0, []), none, none, some (.iload_n 1, 76, 0, 1, 0, 0, 0, 0, []), some (.ishr, 77, 0, 0, 0, 0, 0, 0, []), some (.iconst 1, 78, 0, 0, 0, 0, 1, 0, []), some (.iand, 79, 0, 0, 0, 0, 0, 0, []), some (.ireturn, 80, 0, 0, 0, 0, 0, 0, [])]
def am_t_X8_member_5 : List (Option am_I) := [some (.aload_n 0, 81, 0, 0, 0, 0, 0, 0, []), some (.getfield 26, 84, 0, 8, 2, 306, 0, 0, []), none, none, some (.iload_n 1, 85, 0, 1, 0, 0, 0, 0, []), some (.aload_n 0, 86, 0, 0, 0, 0, 0, 0, []), some (.getfield 26, 89, 0, 8, 2, 306, 0, 0, []), none, none, some (.invokevirtual 160, 92, 3, 45, 0, 506, 0, 0, []), none, none, some (.invokevirtual 199, 95, 3, 46, 2, 584, 0, 0, []), none, none, some (.ireturn, 96, 0, 0, 0, 0, 0, 0, [])]
def am_t_X8_member_6 : List (Option am_I) := [some (.aload_n 0, 97, 0, 0, 0, 0, 0, 0, []), some (.getfield 26, 100, 0, 8, 2, 306, 0, 0, []), none, none, some (.iload_n 1, 101, 0, 1, 0, 0, 0, 0, []), some (.invokevirtual 202, 104, 3, 44, 1, 585, 0, 0, []), none, none, some (.ireturn, 105, 0, 0, 0, 0, 0, 0, []), some (.ldc 84, 107, 0, 0, 0, 352, (-1000001), 0, []), none, some (.ireturn, 108, 0, 0, 0, 0, 0, 0, [])]
def am_t_X8_member : am_T := [am_t_X8_member_0, am_t_X8_member_1, am_t_X8_member_2, am_t_X8_member_3, am_t_X8_member_4, am_t_X8_member_5, am_t_X8_member_6]
theorem am_q_X8_member_0 : am_okQ (am_ok1 am_mt yX8_member.cls yX8_member.name cX8_member 3 (some .int)) 0 am_t_X8_member_0 = true := by decide +kernel
theorem am_q_X8_member_1 : am_okQ (am_ok1 am_mt yX8_member.cls yX8_member.name cX8_member 3 (some .int)) 1 am_t_X8_member_1 = true := by decide +kernel
theorem am_q_X8_member_2 : am_okQ (am_ok1 am_mt yX8_member.cls yX8_member.name cX8_member 3 (some .int)) 2 am_t_X8_member_2 = true := by decide +kernel
theorem am_q_X8_member_3 : am_okQ (am_ok1 am_mt yX8_member.cls yX8_member.name cX8_member 3 (some .int)) 3 am_t_X8_member_3 = true := by decide +kernel
theorem am_q_X8_member_4 : am_okQ (am_ok1 am_mt yX8_member.cls yX8_member.name cX8_member 3 (some .int)) 4 am_t_X8_member_4 = true := by decide +kernel
theorem am_q_X8_member_5 : am_okQ (am_ok1 am_mt yX8_member.cls yX8_member.name cX8_member 3 (some .int)) 5 am_t_X8_member_5 = true := by decide +kernel
theorem am_q_X8_member_6 : am_okQ (am_ok1 am_mt yX8_member.cls yX8_member.name cX8_member 3 (some .int)) 6 am_t_X8_member_6 = true := by decide +kernel
theorem am_q_X8_member : am_okT (am_ok1 am_mt yX8_member.cls yX8_member.name cX8_member 3 (some .int)) 0 am_t_X8_member = true := am_okT_c am_q_X8_member_0 (am_okT_c am_q_X8_member_1 (am_okT_c am_q_X8_member_2 (am_okT_c am_q_X8_member_3 (am_okT_c am_q_X8_member_4 (am_okT_c am_q_X8_member_5 (am_okT_c am_q_X8_member_6 (rfl)))))))
def am_m_X8_member : am_M := (yX8_member, cX8_member, 3, (some .int), 1, 583, 81, 581, 582, 2, am_t_X8_member)
theorem am_k_X8_member : am_okM am_mt am_m_X8_member := ⟨by decide +kernel, am_q_X8_member⟩
def am_t_X8_motion_0 : List (Option am_I) := [some (.aload_n 0, 1, 0, 0, 0, 0, 0, 0, []), some (.getfield 26, 4, 0, 8, 2, 306, 0, 0, []), none, none, some (.iload_n 1, 5, 0, 1, 0, 0, 0, 0, []), some (.invokevirtual 184, 8, 3, 40, 1, 568, 0, 0, []), none, none, some (.ifCond .eq 15, 11, 23, 0, 0, 0, 0, 0, []), none, none, some (.aload_n 0, 12, 0, 0, 0, 0, 0, 0, []), some (.getfield 26, 15, 0, 8, 2, 306, 0, 0, []), none, none, some (.getfield 187, 18, 0, 3, 6, 150, 0, 0, [])]
def am_t_X8_motion_1 : List (Option am_I) := [none, none, some (.iload_n 1, 19, 0, 1, 0, 0, 0, 0, []), some (.iaload, 20, 0, 0, 0, 0, 0, 0, []), some (.goto 5, 23, 25, 0, 0, 0, 0, 0, []), none, none, some (.ldc 84, 25, 0, 0, 0, 352, (-1000001), 0, []), none, some (.ireturn, 26, 0, 0, 0, 0, 0, 0, [])]
def am_t_X8_motion : am_T := [am_t_X8_motion_0, am_t_X8_motion_1]
theorem am_q_X8_motion_0 : am_okQ (am_ok1 am_mt yX8_motion.cls yX8_motion.name cX8_motion 2 (some .int)) 0 am_t_X8_motion_0 = true := by decide +kernel
theorem am_q_X8_motion_1 : am_okQ (am_ok1 am_mt yX8_motion.cls yX8_motion.name cX8_motion 2 (some .int)) 1 am_t_X8_motion_1 = true := by decide +kernel
theorem am_q_X8_motion : am_okT (am_ok1 am_mt yX8_motion.cls yX8_motion.name cX8_motion 2 (some .int)) 0 am_t_X8_motion = true := am_okT_c am_q_X8_motion_0 (am_okT_c am_q_X8_motion_1 (rfl))
def am_m_X8_motion : am_M := (yX8_motion, cX8_motion, 2, (some .int), 1, 589, 81, 587, 588, 1, am_t_X8_motion)
theorem am_k_X8_motion : am_okM am_mt am_m_X8_motion := ⟨by decide +kernel, am_q_X8_motion⟩
def am_t_X8_weight_0 : List (Option am_I) := [some (.aload_n 0, 1, 0, 0, 0, 0, 0, 0, []), some (.getfield 26, 4, 0, 8, 2, 306, 0, 0, []), none, none, some (.getfield 152, 7, 0, 3, 0, 127, 0, 0, []), none, none, some (.ifCond .ne 6, 10, 13, 0, 0, 0, 0, 0, []), none, none, some (.ldc 156, 12, 0, 0, 0, 501, (-1000002), 0, []), none, some (.ireturn, 13, 0, 0, 0, 0, 0, 0, []), some (.aload_n 0, 14, 0, 0, 0, 0, 0, 0, []), some (.getfield 26, 17, 0, 8, 2, 306, 0, 0, []), none]
def am_t_X8_weight_1 : List (Option am_I) := [none, some (.iload_n 1, 18, 0, 1, 0, 0, 0, 0, []), some (.invokevirtual 157, 21, 3, 41, 1, 502, 0, 0, []), none, none, some (.ifCond .eq 21, 24, 42, 0, 0, 0, 0, 0, []), none, none, some (.aload_n 0, 25, 0, 0, 0, 0, 0, 0, []), some (.getfield 26, 28, 0, 8, 2, 306, 0, 0, []), none, none, some (.iload_n 1, 29, 0, 1, 0, 0, 0, 0, []), some (.aload_n 0, 30, 0, 0, 0, 0, 0, 0, []), some (.getfield 26, 33, 0, 8, 2, 306, 0, 0, []), none]
def am_t_X8_weight_2 : List (Option am_I) := [none, some (.invokevirtual 160, 36, 3, 45, 0, 506, 0, 0, []), none, none, some (.invokevirtual 205, 39, 3, 47, 2, 594, 0, 0, []), none, none, some (.goto 5, 42, 44, 0, 0, 0, 0, 0, []), none, none, some (.ldc 84, 44, 0, 0, 0, 352, (-1000001), 0, []), none, some (.ireturn, 45, 0, 0, 0, 0, 0, 0, [])]
def am_t_X8_weight : am_T := [am_t_X8_weight_0, am_t_X8_weight_1, am_t_X8_weight_2]
theorem am_q_X8_weight_0 : am_okQ (am_ok1 am_mt yX8_weight.cls yX8_weight.name cX8_weight 2 (some .int)) 0 am_t_X8_weight_0 = true := by decide +kernel
theorem am_q_X8_weight_1 : am_okQ (am_ok1 am_mt yX8_weight.cls yX8_weight.name cX8_weight 2 (some .int)) 1 am_t_X8_weight_1 = true := by decide +kernel
theorem am_q_X8_weight_2 : am_okQ (am_ok1 am_mt yX8_weight.cls yX8_weight.name cX8_weight 2 (some .int)) 2 am_t_X8_weight_2 = true := by decide +kernel
theorem am_q_X8_weight : am_okT (am_ok1 am_mt yX8_weight.cls yX8_weight.name cX8_weight 2 (some .int)) 0 am_t_X8_weight = true := am_okT_c am_q_X8_weight_0 (am_okT_c am_q_X8_weight_1 (am_okT_c am_q_X8_weight_2 (rfl)))
def am_m_X8_weight : am_M := (yX8_weight, cX8_weight, 2, (some .int), 1, 593, 81, 591, 592, 1, am_t_X8_weight)
theorem am_k_X8_weight : am_okM am_mt am_m_X8_weight := ⟨by decide +kernel, am_q_X8_weight⟩
def am_t_X8_power_0 : List (Option am_I) := [some (.aload_n 0, 1, 0, 0, 0, 0, 0, 0, []), some (.getfield 26, 4, 0, 8, 2, 306, 0, 0, []), none, none, some (.iload_n 1, 5, 0, 1, 0, 0, 0, 0, []), some (.invokevirtual 174, 8, 3, 39, 1, 552, 0, 0, []), none, none, some (.ifCond .eq 10, 11, 18, 0, 0, 0, 0, 0, []), none, none, some (.iload_n 2, 12, 0, 2, 0, 0, 0, 0, []), some (.invokestatic 208, 15, 0, 130, 1, 599, 0, 0, []), none, none, some (.ifCond .ne 6, 18, 21, 0, 0, 0, 0, 0, [])]
def am_t_X8_power_1 : List (Option am_I) := [none, none, some (.ldc 84, 20, 0, 0, 0, 352, (-1000001), 0, []), none, some (.ireturn, 21, 0, 0, 0, 0, 0, 0, []), some (.aload_n 0, 22, 0, 0, 0, 0, 0, 0, []), some (.getfield 51, 25, 0, 8, 7, 311, 0, 0, []), none, none, some (.iload_n 1, 26, 0, 1, 0, 0, 0, 0, []), some (.iload_n 2, 27, 0, 2, 0, 0, 0, 0, []), some (.invokevirtual 211, 30, 2, 21, 2, 602, 0, 0, []), none, none, some (.ireturn, 31, 0, 0, 0, 0, 0, 0, [])]
def am_t_X8_power : am_T := [am_t_X8_power_0, am_t_X8_power_1]
theorem am_q_X8_power_0 : am_okQ (am_ok1 am_mt yX8_power.cls yX8_power.name cX8_power 3 (some .int)) 0 am_t_X8_power_0 = true := by decide +kernel
theorem am_q_X8_power_1 : am_okQ (am_ok1 am_mt yX8_power.cls yX8_power.name cX8_power 3 (some .int)) 1 am_t_X8_power_1 = true := by decide +kernel
theorem am_q_X8_power : am_okT (am_ok1 am_mt yX8_power.cls yX8_power.name cX8_power 3 (some .int)) 0 am_t_X8_power = true := am_okT_c am_q_X8_power_0 (am_okT_c am_q_X8_power_1 (rfl))
def am_m_X8_power : am_M := (yX8_power, cX8_power, 3, (some .int), 1, 598, 81, 596, 597, 2, am_t_X8_power)
theorem am_k_X8_power : am_okM am_mt am_m_X8_power := ⟨by decide +kernel, am_q_X8_power⟩
def am_t_X8_fewest_0 : List (Option am_I) := [some (.aload_n 0, 1, 0, 0, 0, 0, 0, 0, []), some (.getfield 26, 4, 0, 8, 2, 306, 0, 0, []), none, none, some (.getfield 152, 7, 0, 3, 0, 127, 0, 0, []), none, none, some (.ifCond .ne 6, 10, 13, 0, 0, 0, 0, 0, []), none, none, some (.ldc 156, 12, 0, 0, 0, 501, (-1000002), 0, []), none, some (.ireturn, 13, 0, 0, 0, 0, 0, 0, []), some (.iload_n 1, 14, 0, 1, 0, 0, 0, 0, []), some (.invokestatic 208, 17, 0, 130, 1, 599, 0, 0, []), none]
def am_t_X8_fewest_1 : List (Option am_I) := [none, some (.ifCond .eq 14, 20, 31, 0, 0, 0, 0, 0, []), none, none, some (.aload_n 0, 21, 0, 0, 0, 0, 0, 0, []), some (.getfield 51, 24, 0, 8, 7, 311, 0, 0, []), none, none, some (.iload_n 1, 25, 0, 1, 0, 0, 0, 0, []), some (.invokevirtual 214, 28, 2, 23, 1, 624, 0, 0, []), none, none, some (.goto 5, 31, 33, 0, 0, 0, 0, 0, []), none, none, some (.ldc 84, 33, 0, 0, 0, 352, (-1000001), 0, [])]
def am_t_X8_fewest_2 : List (Option am_I) := [none, some (.ireturn, 34, 0, 0, 0, 0, 0, 0, [])]
def am_t_X8_fewest : am_T := [am_t_X8_fewest_0, am_t_X8_fewest_1, am_t_X8_fewest_2]
theorem am_q_X8_fewest_0 : am_okQ (am_ok1 am_mt yX8_fewest.cls yX8_fewest.name cX8_fewest 2 (some .int)) 0 am_t_X8_fewest_0 = true := by decide +kernel
theorem am_q_X8_fewest_1 : am_okQ (am_ok1 am_mt yX8_fewest.cls yX8_fewest.name cX8_fewest 2 (some .int)) 1 am_t_X8_fewest_1 = true := by decide +kernel
theorem am_q_X8_fewest_2 : am_okQ (am_ok1 am_mt yX8_fewest.cls yX8_fewest.name cX8_fewest 2 (some .int)) 2 am_t_X8_fewest_2 = true := by decide +kernel
theorem am_q_X8_fewest : am_okT (am_ok1 am_mt yX8_fewest.cls yX8_fewest.name cX8_fewest 2 (some .int)) 0 am_t_X8_fewest = true := am_okT_c am_q_X8_fewest_0 (am_okT_c am_q_X8_fewest_1 (am_okT_c am_q_X8_fewest_2 (rfl)))
def am_m_X8_fewest : am_M := (yX8_fewest, cX8_fewest, 2, (some .int), 1, 623, 81, 621, 622, 1, am_t_X8_fewest)
theorem am_k_X8_fewest : am_okM am_mt am_m_X8_fewest := ⟨by decide +kernel, am_q_X8_fewest⟩
def am_t_X8_plan_0 : List (Option am_I) := [some (.aload_n 0, 1, 0, 0, 0, 0, 0, 0, []), some (.getfield 26, 4, 0, 8, 2, 306, 0, 0, []), none, none, some (.getfield 152, 7, 0, 3, 0, 127, 0, 0, []), none, none, some (.ifCond .ne 6, 10, 13, 0, 0, 0, 0, 0, []), none, none, some (.ldc 156, 12, 0, 0, 0, 501, (-1000002), 0, []), none, some (.ireturn, 13, 0, 0, 0, 0, 0, 0, []), some (.iload_n 1, 14, 0, 1, 0, 0, 0, 0, []), some (.iconst 1, 15, 0, 0, 0, 0, 1, 0, []), some (.if_icmp .lt 15, 18, 30, 0, 0, 0, 0, 0, [])]
def am_t_X8_plan_1 : List (Option am_I) := [none, none, some (.iload_n 1, 19, 0, 1, 0, 0, 0, 0, []), some (.iconst 4, 20, 0, 0, 0, 0, 4, 0, []), some (.if_icmp .gt 10, 23, 30, 0, 0, 0, 0, 0, []), none, none, some (.iload_n 2, 24, 0, 2, 0, 0, 0, 0, []), some (.invokestatic 217, 27, 0, 131, 1, 634, 0, 0, []), none, none, some (.ifCond .ne 6, 30, 33, 0, 0, 0, 0, 0, []), none, none, some (.ldc 84, 32, 0, 0, 0, 352, (-1000001), 0, []), none]
def am_t_X8_plan_2 : List (Option am_I) := [some (.ireturn, 33, 0, 0, 0, 0, 0, 0, []), some (.aload_n 0, 34, 0, 0, 0, 0, 0, 0, []), some (.getfield 58, 37, 0, 8, 8, 312, 0, 0, []), none, none, some (.iload_n 1, 38, 0, 1, 0, 0, 0, 0, []), some (.iload_n 2, 39, 0, 2, 0, 0, 0, 0, []), some (.invokevirtual 220, 42, 5, 59, 2, 637, 0, 0, []), none, none, some (.ireturn, 43, 0, 0, 0, 0, 0, 0, [])]
def am_t_X8_plan : am_T := [am_t_X8_plan_0, am_t_X8_plan_1, am_t_X8_plan_2]
theorem am_q_X8_plan_0 : am_okQ (am_ok1 am_mt yX8_plan.cls yX8_plan.name cX8_plan 3 (some .int)) 0 am_t_X8_plan_0 = true := by decide +kernel
theorem am_q_X8_plan_1 : am_okQ (am_ok1 am_mt yX8_plan.cls yX8_plan.name cX8_plan 3 (some .int)) 1 am_t_X8_plan_1 = true := by decide +kernel
theorem am_q_X8_plan_2 : am_okQ (am_ok1 am_mt yX8_plan.cls yX8_plan.name cX8_plan 3 (some .int)) 2 am_t_X8_plan_2 = true := by decide +kernel
theorem am_q_X8_plan : am_okT (am_ok1 am_mt yX8_plan.cls yX8_plan.name cX8_plan 3 (some .int)) 0 am_t_X8_plan = true := am_okT_c am_q_X8_plan_0 (am_okT_c am_q_X8_plan_1 (am_okT_c am_q_X8_plan_2 (rfl)))
def am_m_X8_plan : am_M := (yX8_plan, cX8_plan, 3, (some .int), 1, 633, 81, 631, 632, 2, am_t_X8_plan)
theorem am_k_X8_plan : am_okM am_mt am_m_X8_plan := ⟨by decide +kernel, am_q_X8_plan⟩
def am_t_X8_agenda_0 : List (Option am_I) := [some (.aload_n 0, 1, 0, 0, 0, 0, 0, 0, []), some (.getfield 26, 4, 0, 8, 2, 306, 0, 0, []), none, none, some (.getfield 152, 7, 0, 3, 0, 127, 0, 0, []), none, none, some (.ifCond .ne 6, 10, 13, 0, 0, 0, 0, 0, []), none, none, some (.ldc 156, 12, 0, 0, 0, 501, (-1000002), 0, []), none, some (.ireturn, 13, 0, 0, 0, 0, 0, 0, []), some (.iload_n 1, 14, 0, 1, 0, 0, 0, 0, []), some (.invokestatic 217, 17, 0, 131, 1, 634, 0, 0, []), none]
def am_t_X8_agenda_1 : List (Option am_I) := [none, some (.ifCond .eq 14, 20, 31, 0, 0, 0, 0, 0, []), none, none, some (.aload_n 0, 21, 0, 0, 0, 0, 0, 0, []), some (.getfield 51, 24, 0, 8, 7, 311, 0, 0, []), none, none, some (.iload_n 1, 25, 0, 1, 0, 0, 0, 0, []), some (.invokevirtual 223, 28, 2, 24, 1, 671, 0, 0, []), none, none, some (.goto 5, 31, 33, 0, 0, 0, 0, 0, []), none, none, some (.ldc 84, 33, 0, 0, 0, 352, (-1000001), 0, [])]
def am_t_X8_agenda_2 : List (Option am_I) := [none, some (.ireturn, 34, 0, 0, 0, 0, 0, 0, [])]
def am_t_X8_agenda : am_T := [am_t_X8_agenda_0, am_t_X8_agenda_1, am_t_X8_agenda_2]
theorem am_q_X8_agenda_0 : am_okQ (am_ok1 am_mt yX8_agenda.cls yX8_agenda.name cX8_agenda 2 (some .int)) 0 am_t_X8_agenda_0 = true := by decide +kernel
theorem am_q_X8_agenda_1 : am_okQ (am_ok1 am_mt yX8_agenda.cls yX8_agenda.name cX8_agenda 2 (some .int)) 1 am_t_X8_agenda_1 = true := by decide +kernel
theorem am_q_X8_agenda_2 : am_okQ (am_ok1 am_mt yX8_agenda.cls yX8_agenda.name cX8_agenda 2 (some .int)) 2 am_t_X8_agenda_2 = true := by decide +kernel
theorem am_q_X8_agenda : am_okT (am_ok1 am_mt yX8_agenda.cls yX8_agenda.name cX8_agenda 2 (some .int)) 0 am_t_X8_agenda = true := am_okT_c am_q_X8_agenda_0 (am_okT_c am_q_X8_agenda_1 (am_okT_c am_q_X8_agenda_2 (rfl)))
def am_m_X8_agenda : am_M := (yX8_agenda, cX8_agenda, 2, (some .int), 1, 670, 81, 668, 669, 1, am_t_X8_agenda)
theorem am_k_X8_agenda : am_okM am_mt am_m_X8_agenda := ⟨by decide +kernel, am_q_X8_agenda⟩
def am_t_X8_lozenges_0 : List (Option am_I) := [some (.aload_n 0, 1, 0, 0, 0, 0, 0, 0, []), some (.getfield 26, 4, 0, 8, 2, 306, 0, 0, []), none, none, some (.getfield 152, 7, 0, 3, 0, 127, 0, 0, []), none, none, some (.ifCond .ne 6, 10, 13, 0, 0, 0, 0, 0, []), none, none, some (.ldc 156, 12, 0, 0, 0, 501, (-1000002), 0, []), none, some (.ireturn, 13, 0, 0, 0, 0, 0, 0, []), some (.iload_n 1, 14, 0, 1, 0, 0, 0, 0, []), some (.invokestatic 217, 17, 0, 131, 1, 634, 0, 0, []), none]
def am_t_X8_lozenges_1 : List (Option am_I) := [none, some (.ifCond .eq 14, 20, 31, 0, 0, 0, 0, 0, []), none, none, some (.aload_n 0, 21, 0, 0, 0, 0, 0, 0, []), some (.getfield 51, 24, 0, 8, 7, 311, 0, 0, []), none, none, some (.iload_n 1, 25, 0, 1, 0, 0, 0, 0, []), some (.invokevirtual 226, 28, 2, 28, 1, 691, 0, 0, []), none, none, some (.goto 5, 31, 33, 0, 0, 0, 0, 0, []), none, none, some (.ldc 84, 33, 0, 0, 0, 352, (-1000001), 0, [])]
def am_t_X8_lozenges_2 : List (Option am_I) := [none, some (.ireturn, 34, 0, 0, 0, 0, 0, 0, [])]
def am_t_X8_lozenges : am_T := [am_t_X8_lozenges_0, am_t_X8_lozenges_1, am_t_X8_lozenges_2]
theorem am_q_X8_lozenges_0 : am_okQ (am_ok1 am_mt yX8_lozenges.cls yX8_lozenges.name cX8_lozenges 2 (some .int)) 0 am_t_X8_lozenges_0 = true := by decide +kernel
theorem am_q_X8_lozenges_1 : am_okQ (am_ok1 am_mt yX8_lozenges.cls yX8_lozenges.name cX8_lozenges 2 (some .int)) 1 am_t_X8_lozenges_1 = true := by decide +kernel
theorem am_q_X8_lozenges_2 : am_okQ (am_ok1 am_mt yX8_lozenges.cls yX8_lozenges.name cX8_lozenges 2 (some .int)) 2 am_t_X8_lozenges_2 = true := by decide +kernel
theorem am_q_X8_lozenges : am_okT (am_ok1 am_mt yX8_lozenges.cls yX8_lozenges.name cX8_lozenges 2 (some .int)) 0 am_t_X8_lozenges = true := am_okT_c am_q_X8_lozenges_0 (am_okT_c am_q_X8_lozenges_1 (am_okT_c am_q_X8_lozenges_2 (rfl)))
def am_m_X8_lozenges : am_M := (yX8_lozenges, cX8_lozenges, 2, (some .int), 1, 690, 81, 688, 689, 1, am_t_X8_lozenges)
theorem am_k_X8_lozenges : am_okM am_mt am_m_X8_lozenges := ⟨by decide +kernel, am_q_X8_lozenges⟩
def am_t_X8_later_0 : List (Option am_I) := [some (.aload_n 0, 1, 0, 0, 0, 0, 0, 0, []), some (.getfield 26, 4, 0, 8, 2, 306, 0, 0, []), none, none, some (.iload_n 1, 5, 0, 1, 0, 0, 0, 0, []), some (.invokevirtual 174, 8, 3, 39, 1, 552, 0, 0, []), none, none, some (.ifCond .eq 13, 11, 21, 0, 0, 0, 0, 0, []), none, none, some (.iload_n 2, 12, 0, 2, 0, 0, 0, 0, []), some (.ifCond .lt 9, 15, 21, 0, 0, 0, 0, 0, []), none, none, some (.iload_n 2, 16, 0, 2, 0, 0, 0, 0, [])]
def am_t_X8_later_1 : List (Option am_I) := [some (.bipush 40, 18, 0, 0, 0, 0, 40, 0, []), none, some (.if_icmp .le 6, 21, 24, 0, 0, 0, 0, 0, []), none, none, some (.ldc 84, 23, 0, 0, 0, 352, (-1000001), 0, []), none, some (.ireturn, 24, 0, 0, 0, 0, 0, 0, []), some (.aload_n 0, 25, 0, 0, 0, 0, 0, 0, []), some (.getfield 51, 28, 0, 8, 7, 311, 0, 0, []), none, none, some (.iload_n 1, 29, 0, 1, 0, 0, 0, 0, []), some (.iload_n 2, 30, 0, 2, 0, 0, 0, 0, []), some (.invokevirtual 229, 33, 2, 30, 2, 709, 0, 0, []), none]
def am_t_X8_later_2 : List (Option am_I) := [none, some (.ireturn, 34, 0, 0, 0, 0, 0, 0, [])]
def am_t_X8_later : am_T := [am_t_X8_later_0, am_t_X8_later_1, am_t_X8_later_2]
theorem am_q_X8_later_0 : am_okQ (am_ok1 am_mt yX8_later.cls yX8_later.name cX8_later 3 (some .int)) 0 am_t_X8_later_0 = true := by decide +kernel
theorem am_q_X8_later_1 : am_okQ (am_ok1 am_mt yX8_later.cls yX8_later.name cX8_later 3 (some .int)) 1 am_t_X8_later_1 = true := by decide +kernel
theorem am_q_X8_later_2 : am_okQ (am_ok1 am_mt yX8_later.cls yX8_later.name cX8_later 3 (some .int)) 2 am_t_X8_later_2 = true := by decide +kernel
theorem am_q_X8_later : am_okT (am_ok1 am_mt yX8_later.cls yX8_later.name cX8_later 3 (some .int)) 0 am_t_X8_later = true := am_okT_c am_q_X8_later_0 (am_okT_c am_q_X8_later_1 (am_okT_c am_q_X8_later_2 (rfl)))
def am_m_X8_later : am_M := (yX8_later, cX8_later, 3, (some .int), 1, 708, 81, 706, 707, 2, am_t_X8_later)
theorem am_k_X8_later : am_okM am_mt am_m_X8_later := ⟨by decide +kernel, am_q_X8_later⟩
def am_t_X8_carried_0 : List (Option am_I) := [some (.aload_n 0, 1, 0, 0, 0, 0, 0, 0, []), some (.getfield 26, 4, 0, 8, 2, 306, 0, 0, []), none, none, some (.getfield 152, 7, 0, 3, 0, 127, 0, 0, []), none, none, some (.ifCond .ne 6, 10, 13, 0, 0, 0, 0, 0, []), none, none, some (.ldc 156, 12, 0, 0, 0, 501, (-1000002), 0, []), none, some (.ireturn, 13, 0, 0, 0, 0, 0, 0, []), some (.iload_n 1, 14, 0, 1, 0, 0, 0, 0, []), some (.ifCond .lt 20, 17, 34, 0, 0, 0, 0, 0, []), none]
def am_t_X8_carried_1 : List (Option am_I) := [none, some (.iload_n 1, 18, 0, 1, 0, 0, 0, 0, []), some (.bipush 40, 20, 0, 0, 0, 0, 40, 0, []), none, some (.if_icmp .gt 14, 23, 34, 0, 0, 0, 0, 0, []), none, none, some (.aload_n 0, 24, 0, 0, 0, 0, 0, 0, []), some (.getfield 51, 27, 0, 8, 7, 311, 0, 0, []), none, none, some (.iload_n 1, 28, 0, 1, 0, 0, 0, 0, []), some (.invokevirtual 232, 31, 2, 31, 1, 722, 0, 0, []), none, none, some (.goto 5, 34, 36, 0, 0, 0, 0, 0, [])]
def am_t_X8_carried_2 : List (Option am_I) := [none, none, some (.ldc 84, 36, 0, 0, 0, 352, (-1000001), 0, []), none, some (.ireturn, 37, 0, 0, 0, 0, 0, 0, [])]
def am_t_X8_carried : am_T := [am_t_X8_carried_0, am_t_X8_carried_1, am_t_X8_carried_2]
theorem am_q_X8_carried_0 : am_okQ (am_ok1 am_mt yX8_carried.cls yX8_carried.name cX8_carried 2 (some .int)) 0 am_t_X8_carried_0 = true := by decide +kernel
theorem am_q_X8_carried_1 : am_okQ (am_ok1 am_mt yX8_carried.cls yX8_carried.name cX8_carried 2 (some .int)) 1 am_t_X8_carried_1 = true := by decide +kernel
theorem am_q_X8_carried_2 : am_okQ (am_ok1 am_mt yX8_carried.cls yX8_carried.name cX8_carried 2 (some .int)) 2 am_t_X8_carried_2 = true := by decide +kernel
theorem am_q_X8_carried : am_okT (am_ok1 am_mt yX8_carried.cls yX8_carried.name cX8_carried 2 (some .int)) 0 am_t_X8_carried = true := am_okT_c am_q_X8_carried_0 (am_okT_c am_q_X8_carried_1 (am_okT_c am_q_X8_carried_2 (rfl)))
def am_m_X8_carried : am_M := (yX8_carried, cX8_carried, 2, (some .int), 1, 721, 81, 719, 720, 1, am_t_X8_carried)
theorem am_k_X8_carried : am_okM am_mt am_m_X8_carried := ⟨by decide +kernel, am_q_X8_carried⟩
def am_t_X8_fits_0 : List (Option am_I) := [some (.aload_n 0, 1, 0, 0, 0, 0, 0, 0, []), some (.getfield 26, 4, 0, 8, 2, 306, 0, 0, []), none, none, some (.iload_n 1, 5, 0, 1, 0, 0, 0, 0, []), some (.invokevirtual 174, 8, 3, 39, 1, 552, 0, 0, []), none, none, some (.ifCond .eq 35, 11, 43, 0, 0, 0, 0, 0, []), none, none, some (.aload_n 0, 12, 0, 0, 0, 0, 0, 0, []), some (.getfield 13, 15, 0, 8, 0, 304, 0, 0, []), none, none, some (.iload_n 2, 16, 0, 2, 0, 0, 0, 0, [])]
def am_t_X8_fits_1 : List (Option am_I) := [some (.invokevirtual 80, 19, 6, 66, 1, 348, 0, 0, []), none, none, some (.ifCond .eq 24, 22, 43, 0, 0, 0, 0, 0, []), none, none, some (.iload 4, 24, 0, 4, 0, 0, 0, 0, []), none, some (.iconst 1, 25, 0, 0, 0, 0, 1, 0, []), some (.if_icmp .lt 18, 28, 43, 0, 0, 0, 0, 0, []), none, none, some (.iload 4, 30, 0, 4, 0, 0, 0, 0, []), none, some (.bipush 12, 32, 0, 0, 0, 0, 12, 0, []), none]
def am_t_X8_fits_2 : List (Option am_I) := [some (.if_icmp .gt 11, 35, 43, 0, 0, 0, 0, 0, []), none, none, some (.iload 5, 37, 0, 5, 0, 0, 0, 0, []), none, some (.invokestatic 208, 40, 0, 130, 1, 599, 0, 0, []), none, none, some (.ifCond .ne 6, 43, 46, 0, 0, 0, 0, 0, []), none, none, some (.ldc 84, 45, 0, 0, 0, 352, (-1000001), 0, []), none, some (.ireturn, 46, 0, 0, 0, 0, 0, 0, []), some (.aload_n 0, 47, 0, 0, 0, 0, 0, 0, []), some (.getfield 13, 50, 0, 8, 0, 304, 0, 0, [])]
def am_t_X8_fits_3 : List (Option am_I) := [none, none, some (.iload_n 2, 51, 0, 2, 0, 0, 0, 0, []), some (.invokevirtual 96, 54, 6, 67, 1, 370, 0, 0, []), none, none, some (.ifCond .eq 9, 57, 63, 0, 0, 0, 0, 0, []), none, none, some (.aload_n 0, 58, 0, 0, 0, 0, 0, 0, []), some (.iconst 1, 59, 0, 0, 0, 0, 1, 0, []), some (.invokevirtual 85, 62, 8, 127, 1, 353, 0, 0, []), none, none, some (.ireturn, 63, 0, 0, 0, 0, 0, 0, []), some (.aload_n 0, 64, 0, 0, 0, 0, 0, 0, [])]
def am_t_X8_fits_4 : List (Option am_I) := [some (.getfield 13, 67, 0, 8, 0, 304, 0, 0, []), none, none, some (.iload_n 2, 68, 0, 2, 0, 0, 0, 0, []), some (.iload_n 3, 69, 0, 3, 0, 0, 0, 0, []), some (.iload 4, 71, 0, 4, 0, 0, 0, 0, []), none, some (.invokevirtual 99, 74, 6, 69, 3, 374, 0, 0, []), none, none, some (.ifCond .ne 9, 77, 83, 0, 0, 0, 0, 0, []), none, none, some (.aload_n 0, 78, 0, 0, 0, 0, 0, 0, []), some (.iconst 2, 79, 0, 0, 0, 0, 2, 0, []), some (.invokevirtual 85, 82, 8, 127, 1, 353, 0, 0, [])]
def am_t_X8_fits_5 : List (Option am_I) := [none, none, some (.ireturn, 83, 0, 0, 0, 0, 0, 0, []), some (.aload_n 0, 84, 0, 0, 0, 0, 0, 0, []), some (.iload 5, 86, 0, 5, 0, 0, 0, 0, []), none, some (.ifCond .ne 18, 89, 104, 0, 0, 0, 0, 0, []), none, none, some (.aload_n 0, 90, 0, 0, 0, 0, 0, 0, []), some (.getfield 67, 93, 0, 8, 9, 313, 0, 0, []), none, none, some (.iload_n 1, 94, 0, 1, 0, 0, 0, 0, []), some (.iload_n 2, 95, 0, 2, 0, 0, 0, 0, []), some (.iload_n 3, 96, 0, 3, 0, 0, 0, 0, [])]
def am_t_X8_fits_6 : List (Option am_I) := [some (.iload 4, 98, 0, 4, 0, 0, 0, 0, []), none, some (.invokevirtual 235, 101, 4, 54, 4, 730, 0, 0, []), none, none, some (.goto 15, 104, 116, 0, 0, 0, 0, 0, []), none, none, some (.aload_n 0, 105, 0, 0, 0, 0, 0, 0, []), some (.getfield 67, 108, 0, 8, 9, 313, 0, 0, []), none, none, some (.iload_n 1, 109, 0, 1, 0, 0, 0, 0, []), some (.iload_n 2, 110, 0, 2, 0, 0, 0, 0, []), some (.iload_n 3, 111, 0, 3, 0, 0, 0, 0, []), some (.iload 4, 113, 0, 4, 0, 0, 0, 0, [])]
def am_t_X8_fits_7 : List (Option am_I) := [none, some (.invokevirtual 239, 116, 4, 55, 4, 745, 0, 0, []), none, none, some (.invokevirtual 93, 119, 8, 128, 1, 362, 0, 0, []), none, none, some (.ireturn, 120, 0, 0, 0, 0, 0, 0, [])]
def am_t_X8_fits : am_T := [am_t_X8_fits_0, am_t_X8_fits_1, am_t_X8_fits_2, am_t_X8_fits_3, am_t_X8_fits_4, am_t_X8_fits_5, am_t_X8_fits_6, am_t_X8_fits_7]
theorem am_q_X8_fits_0 : am_okQ (am_ok1 am_mt yX8_fits.cls yX8_fits.name cX8_fits 6 (some .int)) 0 am_t_X8_fits_0 = true := by decide +kernel
theorem am_q_X8_fits_1 : am_okQ (am_ok1 am_mt yX8_fits.cls yX8_fits.name cX8_fits 6 (some .int)) 1 am_t_X8_fits_1 = true := by decide +kernel
theorem am_q_X8_fits_2 : am_okQ (am_ok1 am_mt yX8_fits.cls yX8_fits.name cX8_fits 6 (some .int)) 2 am_t_X8_fits_2 = true := by decide +kernel
theorem am_q_X8_fits_3 : am_okQ (am_ok1 am_mt yX8_fits.cls yX8_fits.name cX8_fits 6 (some .int)) 3 am_t_X8_fits_3 = true := by decide +kernel
theorem am_q_X8_fits_4 : am_okQ (am_ok1 am_mt yX8_fits.cls yX8_fits.name cX8_fits 6 (some .int)) 4 am_t_X8_fits_4 = true := by decide +kernel
theorem am_q_X8_fits_5 : am_okQ (am_ok1 am_mt yX8_fits.cls yX8_fits.name cX8_fits 6 (some .int)) 5 am_t_X8_fits_5 = true := by decide +kernel
theorem am_q_X8_fits_6 : am_okQ (am_ok1 am_mt yX8_fits.cls yX8_fits.name cX8_fits 6 (some .int)) 6 am_t_X8_fits_6 = true := by decide +kernel
theorem am_q_X8_fits_7 : am_okQ (am_ok1 am_mt yX8_fits.cls yX8_fits.name cX8_fits 6 (some .int)) 7 am_t_X8_fits_7 = true := by decide +kernel
theorem am_q_X8_fits : am_okT (am_ok1 am_mt yX8_fits.cls yX8_fits.name cX8_fits 6 (some .int)) 0 am_t_X8_fits = true := am_okT_c am_q_X8_fits_0 (am_okT_c am_q_X8_fits_1 (am_okT_c am_q_X8_fits_2 (am_okT_c am_q_X8_fits_3 (am_okT_c am_q_X8_fits_4 (am_okT_c am_q_X8_fits_5 (am_okT_c am_q_X8_fits_6 (am_okT_c am_q_X8_fits_7 (rfl))))))))
def am_m_X8_fits : am_M := (yX8_fits, cX8_fits, 6, (some .int), 1, 729, 81, 727, 728, 5, am_t_X8_fits)
theorem am_k_X8_fits : am_okM am_mt am_m_X8_fits := ⟨by decide +kernel, am_q_X8_fits⟩
def am_t_X8_costs_0 : List (Option am_I) := [some (.aload_n 0, 1, 0, 0, 0, 0, 0, 0, []), some (.getfield 26, 4, 0, 8, 2, 306, 0, 0, []), none, none, some (.getfield 152, 7, 0, 3, 0, 127, 0, 0, []), none, none, some (.ifCond .ne 6, 10, 13, 0, 0, 0, 0, 0, []), none, none, some (.ldc 156, 12, 0, 0, 0, 501, (-1000002), 0, []), none, some (.ireturn, 13, 0, 0, 0, 0, 0, 0, []), some (.aload_n 0, 14, 0, 0, 0, 0, 0, 0, []), some (.getfield 13, 17, 0, 8, 0, 304, 0, 0, []), none]
def am_t_X8_costs_1 : List (Option am_I) := [none, some (.iload_n 1, 18, 0, 1, 0, 0, 0, 0, []), some (.invokevirtual 80, 21, 6, 66, 1, 348, 0, 0, []), none, none, some (.ifCond .eq 14, 24, 35, 0, 0, 0, 0, 0, []), none, none, some (.iload_n 3, 25, 0, 3, 0, 0, 0, 0, []), some (.iconst 1, 26, 0, 0, 0, 0, 1, 0, []), some (.if_icmp .lt 9, 29, 35, 0, 0, 0, 0, 0, []), none, none, some (.iload_n 3, 30, 0, 3, 0, 0, 0, 0, []), some (.bipush 12, 32, 0, 0, 0, 0, 12, 0, []), none]
def am_t_X8_costs_2 : List (Option am_I) := [some (.if_icmp .le 6, 35, 38, 0, 0, 0, 0, 0, []), none, none, some (.ldc 84, 37, 0, 0, 0, 352, (-1000001), 0, []), none, some (.ireturn, 38, 0, 0, 0, 0, 0, 0, []), some (.aload_n 0, 39, 0, 0, 0, 0, 0, 0, []), some (.getfield 13, 42, 0, 8, 0, 304, 0, 0, []), none, none, some (.iload_n 1, 43, 0, 1, 0, 0, 0, 0, []), some (.invokevirtual 96, 46, 6, 67, 1, 370, 0, 0, []), none, none, some (.ifCond .eq 9, 49, 55, 0, 0, 0, 0, 0, []), none]
def am_t_X8_costs_3 : List (Option am_I) := [none, some (.aload_n 0, 50, 0, 0, 0, 0, 0, 0, []), some (.iconst 1, 51, 0, 0, 0, 0, 1, 0, []), some (.invokevirtual 85, 54, 8, 127, 1, 353, 0, 0, []), none, none, some (.ireturn, 55, 0, 0, 0, 0, 0, 0, []), some (.aload_n 0, 56, 0, 0, 0, 0, 0, 0, []), some (.getfield 13, 59, 0, 8, 0, 304, 0, 0, []), none, none, some (.iload_n 1, 60, 0, 1, 0, 0, 0, 0, []), some (.iload_n 2, 61, 0, 2, 0, 0, 0, 0, []), some (.iload_n 3, 62, 0, 3, 0, 0, 0, 0, []), some (.invokevirtual 99, 65, 6, 69, 3, 374, 0, 0, []), none]
def am_t_X8_costs_4 : List (Option am_I) := [none, some (.ifCond .ne 9, 68, 74, 0, 0, 0, 0, 0, []), none, none, some (.aload_n 0, 69, 0, 0, 0, 0, 0, 0, []), some (.iconst 2, 70, 0, 0, 0, 0, 2, 0, []), some (.invokevirtual 85, 73, 8, 127, 1, 353, 0, 0, []), none, none, some (.ireturn, 74, 0, 0, 0, 0, 0, 0, []), some (.aload_n 0, 75, 0, 0, 0, 0, 0, 0, []), some (.aload_n 0, 76, 0, 0, 0, 0, 0, 0, []), some (.getfield 67, 79, 0, 8, 9, 313, 0, 0, []), none, none, some (.iload_n 1, 80, 0, 1, 0, 0, 0, 0, [])]
def am_t_X8_costs_5 : List (Option am_I) := [some (.iload_n 2, 81, 0, 2, 0, 0, 0, 0, []), some (.iload_n 3, 82, 0, 3, 0, 0, 0, 0, []), some (.invokevirtual 242, 85, 4, 56, 3, 753, 0, 0, []), none, none, some (.invokevirtual 93, 88, 8, 128, 1, 362, 0, 0, []), none, none, some (.ireturn, 89, 0, 0, 0, 0, 0, 0, [])]
def am_t_X8_costs : am_T := [am_t_X8_costs_0, am_t_X8_costs_1, am_t_X8_costs_2, am_t_X8_costs_3, am_t_X8_costs_4, am_t_X8_costs_5]
theorem am_q_X8_costs_0 : am_okQ (am_ok1 am_mt yX8_costs.cls yX8_costs.name cX8_costs 4 (some .int)) 0 am_t_X8_costs_0 = true := by decide +kernel
theorem am_q_X8_costs_1 : am_okQ (am_ok1 am_mt yX8_costs.cls yX8_costs.name cX8_costs 4 (some .int)) 1 am_t_X8_costs_1 = true := by decide +kernel
theorem am_q_X8_costs_2 : am_okQ (am_ok1 am_mt yX8_costs.cls yX8_costs.name cX8_costs 4 (some .int)) 2 am_t_X8_costs_2 = true := by decide +kernel
theorem am_q_X8_costs_3 : am_okQ (am_ok1 am_mt yX8_costs.cls yX8_costs.name cX8_costs 4 (some .int)) 3 am_t_X8_costs_3 = true := by decide +kernel
theorem am_q_X8_costs_4 : am_okQ (am_ok1 am_mt yX8_costs.cls yX8_costs.name cX8_costs 4 (some .int)) 4 am_t_X8_costs_4 = true := by decide +kernel
theorem am_q_X8_costs_5 : am_okQ (am_ok1 am_mt yX8_costs.cls yX8_costs.name cX8_costs 4 (some .int)) 5 am_t_X8_costs_5 = true := by decide +kernel
theorem am_q_X8_costs : am_okT (am_ok1 am_mt yX8_costs.cls yX8_costs.name cX8_costs 4 (some .int)) 0 am_t_X8_costs = true := am_okT_c am_q_X8_costs_0 (am_okT_c am_q_X8_costs_1 (am_okT_c am_q_X8_costs_2 (am_okT_c am_q_X8_costs_3 (am_okT_c am_q_X8_costs_4 (am_okT_c am_q_X8_costs_5 (rfl))))))
def am_m_X8_costs : am_M := (yX8_costs, cX8_costs, 4, (some .int), 1, 752, 81, 750, 751, 3, am_t_X8_costs)
theorem am_k_X8_costs : am_okM am_mt am_m_X8_costs := ⟨by decide +kernel, am_q_X8_costs⟩
def am_t_X8_colds_0 : List (Option am_I) := [some (.aload_n 0, 1, 0, 0, 0, 0, 0, 0, []), some (.getfield 26, 4, 0, 8, 2, 306, 0, 0, []), none, none, some (.getfield 152, 7, 0, 3, 0, 127, 0, 0, []), none, none, some (.ifCond .ne 6, 10, 13, 0, 0, 0, 0, 0, []), none, none, some (.ldc 156, 12, 0, 0, 0, 501, (-1000002), 0, []), none, some (.ireturn, 13, 0, 0, 0, 0, 0, 0, []), some (.iload_n 1, 14, 0, 1, 0, 0, 0, 0, []), some (.ifCond .lt 28, 17, 42, 0, 0, 0, 0, 0, []), none]
def am_t_X8_colds_1 : List (Option am_I) := [none, some (.iload_n 1, 18, 0, 1, 0, 0, 0, 0, []), some (.bipush 10, 20, 0, 0, 0, 0, 10, 0, []), none, some (.if_icmp .gt 22, 23, 42, 0, 0, 0, 0, 0, []), none, none, some (.iload_n 2, 24, 0, 2, 0, 0, 0, 0, []), some (.invokestatic 208, 27, 0, 130, 1, 599, 0, 0, []), none, none, some (.ifCond .eq 15, 30, 42, 0, 0, 0, 0, 0, []), none, none, some (.aload_n 0, 31, 0, 0, 0, 0, 0, 0, []), some (.getfield 51, 34, 0, 8, 7, 311, 0, 0, [])]
def am_t_X8_colds_2 : List (Option am_I) := [none, none, some (.iload_n 1, 35, 0, 1, 0, 0, 0, 0, []), some (.iload_n 2, 36, 0, 2, 0, 0, 0, 0, []), some (.invokevirtual 245, 39, 2, 32, 2, 761, 0, 0, []), none, none, some (.goto 5, 42, 44, 0, 0, 0, 0, 0, []), none, none, some (.ldc 84, 44, 0, 0, 0, 352, (-1000001), 0, []), none, some (.ireturn, 45, 0, 0, 0, 0, 0, 0, [])]
def am_t_X8_colds : am_T := [am_t_X8_colds_0, am_t_X8_colds_1, am_t_X8_colds_2]
theorem am_q_X8_colds_0 : am_okQ (am_ok1 am_mt yX8_colds.cls yX8_colds.name cX8_colds 3 (some .int)) 0 am_t_X8_colds_0 = true := by decide +kernel
theorem am_q_X8_colds_1 : am_okQ (am_ok1 am_mt yX8_colds.cls yX8_colds.name cX8_colds 3 (some .int)) 1 am_t_X8_colds_1 = true := by decide +kernel
theorem am_q_X8_colds_2 : am_okQ (am_ok1 am_mt yX8_colds.cls yX8_colds.name cX8_colds 3 (some .int)) 2 am_t_X8_colds_2 = true := by decide +kernel
theorem am_q_X8_colds : am_okT (am_ok1 am_mt yX8_colds.cls yX8_colds.name cX8_colds 3 (some .int)) 0 am_t_X8_colds = true := am_okT_c am_q_X8_colds_0 (am_okT_c am_q_X8_colds_1 (am_okT_c am_q_X8_colds_2 (rfl)))
def am_m_X8_colds : am_M := (yX8_colds, cX8_colds, 3, (some .int), 1, 760, 81, 758, 759, 2, am_t_X8_colds)
theorem am_k_X8_colds : am_okM am_mt am_m_X8_colds := ⟨by decide +kernel, am_q_X8_colds⟩
def am_t_X8_drawn_0 : List (Option am_I) := [some (.aload_n 0, 1, 0, 0, 0, 0, 0, 0, []), some (.getfield 26, 4, 0, 8, 2, 306, 0, 0, []), none, none, some (.getfield 152, 7, 0, 3, 0, 127, 0, 0, []), none, none, some (.ifCond .ne 6, 10, 13, 0, 0, 0, 0, 0, []), none, none, some (.ldc 156, 12, 0, 0, 0, 501, (-1000002), 0, []), none, some (.ireturn, 13, 0, 0, 0, 0, 0, 0, []), some (.iload_n 1, 14, 0, 1, 0, 0, 0, 0, []), some (.ifCond .lt 27, 17, 41, 0, 0, 0, 0, 0, []), none]
def am_t_X8_drawn_1 : List (Option am_I) := [none, some (.iload_n 1, 18, 0, 1, 0, 0, 0, 0, []), some (.bipush 60, 20, 0, 0, 0, 0, 60, 0, []), none, some (.if_icmp .gt 21, 23, 41, 0, 0, 0, 0, 0, []), none, none, some (.iload_n 2, 24, 0, 2, 0, 0, 0, 0, []), some (.iconst 1, 25, 0, 0, 0, 0, 1, 0, []), some (.if_icmp .lt 16, 28, 41, 0, 0, 0, 0, 0, []), none, none, some (.iload_n 2, 29, 0, 2, 0, 0, 0, 0, []), some (.ldc 248, 31, 0, 0, 0, 776, 999999, 0, []), none, some (.if_icmp .gt 10, 34, 41, 0, 0, 0, 0, 0, [])]
def am_t_X8_drawn_2 : List (Option am_I) := [none, none, some (.iload_n 3, 35, 0, 3, 0, 0, 0, 0, []), some (.invokestatic 208, 38, 0, 130, 1, 599, 0, 0, []), none, none, some (.ifCond .ne 6, 41, 44, 0, 0, 0, 0, 0, []), none, none, some (.ldc 84, 43, 0, 0, 0, 352, (-1000001), 0, []), none, some (.ireturn, 44, 0, 0, 0, 0, 0, 0, []), some (.aload_n 0, 45, 0, 0, 0, 0, 0, 0, []), some (.getfield 51, 48, 0, 8, 7, 311, 0, 0, []), none, none]
def am_t_X8_drawn_3 : List (Option am_I) := [some (.iload_n 1, 49, 0, 1, 0, 0, 0, 0, []), some (.iload_n 2, 50, 0, 2, 0, 0, 0, 0, []), some (.iload_n 3, 51, 0, 3, 0, 0, 0, 0, []), some (.invokevirtual 249, 54, 2, 34, 3, 777, 0, 0, []), none, none, some (.ireturn, 55, 0, 0, 0, 0, 0, 0, [])]
def am_t_X8_drawn : am_T := [am_t_X8_drawn_0, am_t_X8_drawn_1, am_t_X8_drawn_2, am_t_X8_drawn_3]
theorem am_q_X8_drawn_0 : am_okQ (am_ok1 am_mt yX8_drawn.cls yX8_drawn.name cX8_drawn 4 (some .int)) 0 am_t_X8_drawn_0 = true := by decide +kernel
theorem am_q_X8_drawn_1 : am_okQ (am_ok1 am_mt yX8_drawn.cls yX8_drawn.name cX8_drawn 4 (some .int)) 1 am_t_X8_drawn_1 = true := by decide +kernel
theorem am_q_X8_drawn_2 : am_okQ (am_ok1 am_mt yX8_drawn.cls yX8_drawn.name cX8_drawn 4 (some .int)) 2 am_t_X8_drawn_2 = true := by decide +kernel
theorem am_q_X8_drawn_3 : am_okQ (am_ok1 am_mt yX8_drawn.cls yX8_drawn.name cX8_drawn 4 (some .int)) 3 am_t_X8_drawn_3 = true := by decide +kernel
theorem am_q_X8_drawn : am_okT (am_ok1 am_mt yX8_drawn.cls yX8_drawn.name cX8_drawn 4 (some .int)) 0 am_t_X8_drawn = true := am_okT_c am_q_X8_drawn_0 (am_okT_c am_q_X8_drawn_1 (am_okT_c am_q_X8_drawn_2 (am_okT_c am_q_X8_drawn_3 (rfl))))
def am_m_X8_drawn : am_M := (yX8_drawn, cX8_drawn, 4, (some .int), 1, 775, 81, 773, 774, 3, am_t_X8_drawn)
theorem am_k_X8_drawn : am_okM am_mt am_m_X8_drawn := ⟨by decide +kernel, am_q_X8_drawn⟩
def am_t_X8_image_0 : List (Option am_I) := [some (.iload_n 1, 1, 0, 1, 0, 0, 0, 0, []), some (.invokestatic 208, 4, 0, 130, 1, 599, 0, 0, []), none, none, some (.ifCond .ne 6, 7, 10, 0, 0, 0, 0, 0, []), none, none, some (.ldc 84, 9, 0, 0, 0, 352, (-1000001), 0, []), none, some (.ireturn, 10, 0, 0, 0, 0, 0, 0, []), some (.aload_n 0, 11, 0, 0, 0, 0, 0, 0, []), some (.getfield 26, 14, 0, 8, 2, 306, 0, 0, []), none, none, some (.getfield 152, 17, 0, 3, 0, 127, 0, 0, []), none]
def am_t_X8_image_1 : List (Option am_I) := [none, some (.ifCond .ne 6, 20, 23, 0, 0, 0, 0, 0, []), none, none, some (.ldc 156, 22, 0, 0, 0, 501, (-1000002), 0, []), none, some (.ireturn, 23, 0, 0, 0, 0, 0, 0, []), some (.aload_n 0, 24, 0, 0, 0, 0, 0, 0, []), some (.iload_n 1, 25, 0, 1, 0, 0, 0, 0, []), some (.invokevirtual 252, 28, 8, 129, 1, 792, 0, 0, []), none, none, some (.aload_n 0, 29, 0, 0, 0, 0, 0, 0, []), some (.getfield 26, 32, 0, 8, 2, 306, 0, 0, []), none, none]
def am_t_X8_image_2 : List (Option am_I) := [some (.invokevirtual 143, 35, 3, 38, 1, 485, 0, 0, []), none, none, some (.iconst 1, 36, 0, 0, 0, 0, 1, 0, []), some (.ireturn, 37, 0, 0, 0, 0, 0, 0, [])]
def am_t_X8_image : am_T := [am_t_X8_image_0, am_t_X8_image_1, am_t_X8_image_2]
theorem am_q_X8_image_0 : am_okQ (am_ok1 am_mt yX8_image.cls yX8_image.name cX8_image 2 (some .int)) 0 am_t_X8_image_0 = true := by decide +kernel
theorem am_q_X8_image_1 : am_okQ (am_ok1 am_mt yX8_image.cls yX8_image.name cX8_image 2 (some .int)) 1 am_t_X8_image_1 = true := by decide +kernel
theorem am_q_X8_image_2 : am_okQ (am_ok1 am_mt yX8_image.cls yX8_image.name cX8_image 2 (some .int)) 2 am_t_X8_image_2 = true := by decide +kernel
theorem am_q_X8_image : am_okT (am_ok1 am_mt yX8_image.cls yX8_image.name cX8_image 2 (some .int)) 0 am_t_X8_image = true := am_okT_c am_q_X8_image_0 (am_okT_c am_q_X8_image_1 (am_okT_c am_q_X8_image_2 (rfl)))
def am_m_X8_image : am_M := (yX8_image, cX8_image, 2, (some .int), 1, 791, 81, 789, 790, 1, am_t_X8_image)
theorem am_k_X8_image : am_okM am_mt am_m_X8_image := ⟨by decide +kernel, am_q_X8_image⟩
def am_ms4 : List am_M := [am_m_X8_drop, am_m_X8_feed, am_m_X8_hill, am_m_X8_fault, am_m_X8_speak, am_m_X8_lozenge, am_m_X8_cold, am_m_X8_needs, am_m_X8_undo, am_m_X8_member, am_m_X8_motion, am_m_X8_weight, am_m_X8_power, am_m_X8_fewest, am_m_X8_plan, am_m_X8_agenda, am_m_X8_lozenges, am_m_X8_later, am_m_X8_carried, am_m_X8_fits, am_m_X8_costs, am_m_X8_colds, am_m_X8_drawn, am_m_X8_image]
theorem am_ms4_ok : ∀ M ∈ am_ms4, am_okM am_mt M := List.forall_mem_cons.mpr ⟨am_k_X8_drop, List.forall_mem_cons.mpr ⟨am_k_X8_feed, List.forall_mem_cons.mpr ⟨am_k_X8_hill, List.forall_mem_cons.mpr ⟨am_k_X8_fault, List.forall_mem_cons.mpr ⟨am_k_X8_speak, List.forall_mem_cons.mpr ⟨am_k_X8_lozenge, List.forall_mem_cons.mpr ⟨am_k_X8_cold, List.forall_mem_cons.mpr ⟨am_k_X8_needs, List.forall_mem_cons.mpr ⟨am_k_X8_undo, List.forall_mem_cons.mpr ⟨am_k_X8_member, List.forall_mem_cons.mpr ⟨am_k_X8_motion, List.forall_mem_cons.mpr ⟨am_k_X8_weight, List.forall_mem_cons.mpr ⟨am_k_X8_power, List.forall_mem_cons.mpr ⟨am_k_X8_fewest, List.forall_mem_cons.mpr ⟨am_k_X8_plan, List.forall_mem_cons.mpr ⟨am_k_X8_agenda, List.forall_mem_cons.mpr ⟨am_k_X8_lozenges, List.forall_mem_cons.mpr ⟨am_k_X8_later, List.forall_mem_cons.mpr ⟨am_k_X8_carried, List.forall_mem_cons.mpr ⟨am_k_X8_fits, List.forall_mem_cons.mpr ⟨am_k_X8_costs, List.forall_mem_cons.mpr ⟨am_k_X8_colds, List.forall_mem_cons.mpr ⟨am_k_X8_drawn, List.forall_mem_cons.mpr ⟨am_k_X8_image, fun _ h => absurd h List.not_mem_nil⟩⟩⟩⟩⟩⟩⟩⟩⟩⟩⟩⟩⟩⟩⟩⟩⟩⟩⟩⟩⟩⟩⟩⟩
end
section
def am_t_X8_restore_0 : List (Option am_I) := [some (.iload_n 1, 1, 0, 1, 0, 0, 0, 0, []), some (.invokestatic 208, 4, 0, 130, 1, 599, 0, 0, []), none, none, some (.ifCond .ne 6, 7, 10, 0, 0, 0, 0, 0, []), none, none, some (.ldc 84, 9, 0, 0, 0, 352, (-1000001), 0, []), none, some (.ireturn, 10, 0, 0, 0, 0, 0, 0, []), some (.aload_n 0, 11, 0, 0, 0, 0, 0, 0, []), some (.iload_n 1, 12, 0, 1, 0, 0, 0, 0, []), some (.invokevirtual 252, 15, 8, 129, 1, 792, 0, 0, []), none, none, some (.getfield 152, 18, 0, 3, 0, 127, 0, 0, [])]
def am_t_X8_restore_1 : List (Option am_I) := [none, none, some (.ifCond .ne 6, 21, 24, 0, 0, 0, 0, 0, []), none, none, some (.ldc 156, 23, 0, 0, 0, 501, (-1000002), 0, []), none, some (.ireturn, 24, 0, 0, 0, 0, 0, 0, []), some (.aload_n 0, 25, 0, 0, 0, 0, 0, 0, []), some (.getfield 26, 28, 0, 8, 2, 306, 0, 0, []), none, none, some (.aload_n 0, 29, 0, 0, 0, 0, 0, 0, []), some (.iload_n 1, 30, 0, 1, 0, 0, 0, 0, []), some (.invokevirtual 252, 33, 8, 129, 1, 792, 0, 0, []), none]
def am_t_X8_restore_2 : List (Option am_I) := [none, some (.invokevirtual 143, 36, 3, 38, 1, 485, 0, 0, []), none, none, some (.aload_n 0, 37, 0, 0, 0, 0, 0, 0, []), some (.getfield 42, 40, 0, 8, 6, 310, 0, 0, []), none, none, some (.invokevirtual 146, 43, 0, 1, 0, 489, 0, 0, []), none, none, some (.iconst 1, 44, 0, 0, 0, 0, 1, 0, []), some (.ireturn, 45, 0, 0, 0, 0, 0, 0, [])]
def am_t_X8_restore : am_T := [am_t_X8_restore_0, am_t_X8_restore_1, am_t_X8_restore_2]
theorem am_q_X8_restore_0 : am_okQ (am_ok1 am_mt yX8_restore.cls yX8_restore.name cX8_restore 2 (some .int)) 0 am_t_X8_restore_0 = true := by decide +kernel
theorem am_q_X8_restore_1 : am_okQ (am_ok1 am_mt yX8_restore.cls yX8_restore.name cX8_restore 2 (some .int)) 1 am_t_X8_restore_1 = true := by decide +kernel
theorem am_q_X8_restore_2 : am_okQ (am_ok1 am_mt yX8_restore.cls yX8_restore.name cX8_restore 2 (some .int)) 2 am_t_X8_restore_2 = true := by decide +kernel
theorem am_q_X8_restore : am_okT (am_ok1 am_mt yX8_restore.cls yX8_restore.name cX8_restore 2 (some .int)) 0 am_t_X8_restore = true := am_okT_c am_q_X8_restore_0 (am_okT_c am_q_X8_restore_1 (am_okT_c am_q_X8_restore_2 (rfl)))
def am_m_X8_restore : am_M := (yX8_restore, cX8_restore, 2, (some .int), 1, 799, 81, 797, 798, 1, am_t_X8_restore)
theorem am_k_X8_restore : am_okM am_mt am_m_X8_restore := ⟨by decide +kernel, am_q_X8_restore⟩
def am_t_X8_kind_0 : List (Option am_I) := [some (.aload_n 0, 1, 0, 0, 0, 0, 0, 0, []), some (.getfield 26, 4, 0, 8, 2, 306, 0, 0, []), none, none, some (.iload_n 1, 5, 0, 1, 0, 0, 0, 0, []), some (.invokevirtual 174, 8, 3, 39, 1, 552, 0, 0, []), none, none, some (.ifCond .eq 15, 11, 23, 0, 0, 0, 0, 0, []), none, none, some (.aload_n 0, 12, 0, 0, 0, 0, 0, 0, []), some (.getfield 26, 15, 0, 8, 2, 306, 0, 0, []), none, none, some (.getfield 256, 18, 0, 3, 7, 154, 0, 0, [])]
def am_t_X8_kind_1 : List (Option am_I) := [none, none, some (.iload_n 1, 19, 0, 1, 0, 0, 0, 0, []), some (.iaload, 20, 0, 0, 0, 0, 0, 0, []), some (.goto 5, 23, 25, 0, 0, 0, 0, 0, []), none, none, some (.ldc 84, 25, 0, 0, 0, 352, (-1000001), 0, []), none, some (.ireturn, 26, 0, 0, 0, 0, 0, 0, [])]
def am_t_X8_kind : am_T := [am_t_X8_kind_0, am_t_X8_kind_1]
theorem am_q_X8_kind_0 : am_okQ (am_ok1 am_mt yX8_kind.cls yX8_kind.name cX8_kind 2 (some .int)) 0 am_t_X8_kind_0 = true := by decide +kernel
theorem am_q_X8_kind_1 : am_okQ (am_ok1 am_mt yX8_kind.cls yX8_kind.name cX8_kind 2 (some .int)) 1 am_t_X8_kind_1 = true := by decide +kernel
theorem am_q_X8_kind : am_okT (am_ok1 am_mt yX8_kind.cls yX8_kind.name cX8_kind 2 (some .int)) 0 am_t_X8_kind = true := am_okT_c am_q_X8_kind_0 (am_okT_c am_q_X8_kind_1 (rfl))
def am_m_X8_kind : am_M := (yX8_kind, cX8_kind, 2, (some .int), 1, 803, 81, 801, 802, 1, am_t_X8_kind)
theorem am_k_X8_kind : am_okM am_mt am_m_X8_kind := ⟨by decide +kernel, am_q_X8_kind⟩
def am_t_X8_as_0 : List (Option am_I) := [some (.aload_n 0, 1, 0, 0, 0, 0, 0, 0, []), some (.getfield 26, 4, 0, 8, 2, 306, 0, 0, []), none, none, some (.iload_n 1, 5, 0, 1, 0, 0, 0, 0, []), some (.invokevirtual 174, 8, 3, 39, 1, 552, 0, 0, []), none, none, some (.ifCond .eq 12, 11, 20, 0, 0, 0, 0, 0, []), none, none, some (.iload_n 2, 12, 0, 2, 0, 0, 0, 0, []), some (.ifCond .lt 8, 15, 20, 0, 0, 0, 0, 0, []), none, none, some (.iload_n 2, 16, 0, 2, 0, 0, 0, 0, [])]
def am_t_X8_as_1 : List (Option am_I) := [some (.iconst 5, 17, 0, 0, 0, 0, 5, 0, []), some (.if_icmp .le 6, 20, 23, 0, 0, 0, 0, 0, []), none, none, some (.ldc 84, 22, 0, 0, 0, 352, (-1000001), 0, []), none, some (.ireturn, 23, 0, 0, 0, 0, 0, 0, []), some (.aload_n 0, 24, 0, 0, 0, 0, 0, 0, []), some (.getfield 26, 27, 0, 8, 2, 306, 0, 0, []), none, none, some (.getfield 256, 30, 0, 3, 7, 154, 0, 0, []), none, none, some (.iload_n 1, 31, 0, 1, 0, 0, 0, 0, []), some (.iaload, 32, 0, 0, 0, 0, 0, 0, [])]
def am_t_X8_as_2 : List (Option am_I) := [some (.iload_n 2, 33, 0, 2, 0, 0, 0, 0, []), some (.invokestatic 259, 36, 0, 132, 2, 808, 0, 0, []), none, none, some (.ifCond .eq 11, 39, 47, 0, 0, 0, 0, 0, []), none, none, some (.aload_n 0, 40, 0, 0, 0, 0, 0, 0, []), some (.iload_n 1, 41, 0, 1, 0, 0, 0, 0, []), some (.invokevirtual 93, 44, 8, 128, 1, 362, 0, 0, []), none, none, some (.goto 8, 47, 52, 0, 0, 0, 0, 0, []), none, none, some (.aload_n 0, 48, 0, 0, 0, 0, 0, 0, [])]
def am_t_X8_as_3 : List (Option am_I) := [some (.iconst 3, 49, 0, 0, 0, 0, 3, 0, []), some (.invokevirtual 85, 52, 8, 127, 1, 353, 0, 0, []), none, none, some (.ireturn, 53, 0, 0, 0, 0, 0, 0, [])]
def am_t_X8_as : am_T := [am_t_X8_as_0, am_t_X8_as_1, am_t_X8_as_2, am_t_X8_as_3]
theorem am_q_X8_as_0 : am_okQ (am_ok1 am_mt yX8_as.cls yX8_as.name cX8_as 3 (some .int)) 0 am_t_X8_as_0 = true := by decide +kernel
theorem am_q_X8_as_1 : am_okQ (am_ok1 am_mt yX8_as.cls yX8_as.name cX8_as 3 (some .int)) 1 am_t_X8_as_1 = true := by decide +kernel
theorem am_q_X8_as_2 : am_okQ (am_ok1 am_mt yX8_as.cls yX8_as.name cX8_as 3 (some .int)) 2 am_t_X8_as_2 = true := by decide +kernel
theorem am_q_X8_as_3 : am_okQ (am_ok1 am_mt yX8_as.cls yX8_as.name cX8_as 3 (some .int)) 3 am_t_X8_as_3 = true := by decide +kernel
theorem am_q_X8_as : am_okT (am_ok1 am_mt yX8_as.cls yX8_as.name cX8_as 3 (some .int)) 0 am_t_X8_as = true := am_okT_c am_q_X8_as_0 (am_okT_c am_q_X8_as_1 (am_okT_c am_q_X8_as_2 (am_okT_c am_q_X8_as_3 (rfl))))
def am_m_X8_as : am_M := (yX8_as, cX8_as, 3, (some .int), 1, 807, 81, 805, 806, 2, am_t_X8_as)
theorem am_k_X8_as : am_okM am_mt am_m_X8_as := ⟨by decide +kernel, am_q_X8_as⟩
def am_t_X8_ask_0 : List (Option am_I) := [some (.aload_n 0, 1, 0, 0, 0, 0, 0, 0, []), some (.getfield 26, 4, 0, 8, 2, 306, 0, 0, []), none, none, some (.iload_n 1, 5, 0, 1, 0, 0, 0, 0, []), some (.invokevirtual 174, 8, 3, 39, 1, 552, 0, 0, []), none, none, some (.ifCond .eq 10, 11, 18, 0, 0, 0, 0, 0, []), none, none, some (.iload_n 2, 12, 0, 2, 0, 0, 0, 0, []), some (.invokestatic 208, 15, 0, 130, 1, 599, 0, 0, []), none, none, some (.ifCond .ne 6, 18, 21, 0, 0, 0, 0, 0, [])]
def am_t_X8_ask_1 : List (Option am_I) := [none, none, some (.ldc 84, 20, 0, 0, 0, 352, (-1000001), 0, []), none, some (.ireturn, 21, 0, 0, 0, 0, 0, 0, []), some (.iload_n 2, 22, 0, 2, 0, 0, 0, 0, []), some (.ifCond .ne 14, 25, 36, 0, 0, 0, 0, 0, []), none, none, some (.aload_n 0, 26, 0, 0, 0, 0, 0, 0, []), some (.getfield 76, 29, 0, 8, 10, 314, 0, 0, []), none, none, some (.iload_n 1, 30, 0, 1, 0, 0, 0, 0, []), some (.invokevirtual 262, 33, 1, 5, 1, 815, 0, 0, []), none]
def am_t_X8_ask_2 : List (Option am_I) := [none, some (.goto 11, 36, 44, 0, 0, 0, 0, 0, []), none, none, some (.aload_n 0, 37, 0, 0, 0, 0, 0, 0, []), some (.getfield 76, 40, 0, 8, 10, 314, 0, 0, []), none, none, some (.iload_n 1, 41, 0, 1, 0, 0, 0, 0, []), some (.invokevirtual 265, 44, 1, 6, 1, 864, 0, 0, []), none, none, some (.ireturn, 45, 0, 0, 0, 0, 0, 0, [])]
def am_t_X8_ask : am_T := [am_t_X8_ask_0, am_t_X8_ask_1, am_t_X8_ask_2]
theorem am_q_X8_ask_0 : am_okQ (am_ok1 am_mt yX8_ask.cls yX8_ask.name cX8_ask 3 (some .int)) 0 am_t_X8_ask_0 = true := by decide +kernel
theorem am_q_X8_ask_1 : am_okQ (am_ok1 am_mt yX8_ask.cls yX8_ask.name cX8_ask 3 (some .int)) 1 am_t_X8_ask_1 = true := by decide +kernel
theorem am_q_X8_ask_2 : am_okQ (am_ok1 am_mt yX8_ask.cls yX8_ask.name cX8_ask 3 (some .int)) 2 am_t_X8_ask_2 = true := by decide +kernel
theorem am_q_X8_ask : am_okT (am_ok1 am_mt yX8_ask.cls yX8_ask.name cX8_ask 3 (some .int)) 0 am_t_X8_ask = true := am_okT_c am_q_X8_ask_0 (am_okT_c am_q_X8_ask_1 (am_okT_c am_q_X8_ask_2 (rfl)))
def am_m_X8_ask : am_M := (yX8_ask, cX8_ask, 3, (some .int), 1, 814, 81, 812, 813, 2, am_t_X8_ask)
theorem am_k_X8_ask : am_okM am_mt am_m_X8_ask := ⟨by decide +kernel, am_q_X8_ask⟩
def am_t_X8_trace_0 : List (Option am_I) := [some (.aload_n 0, 1, 0, 0, 0, 0, 0, 0, []), some (.getfield 76, 4, 0, 8, 10, 314, 0, 0, []), none, none, some (.iload_n 1, 5, 0, 1, 0, 0, 0, 0, []), some (.invokevirtual 268, 8, 1, 7, 1, 876, 0, 0, []), none, none, some (.ireturn, 9, 0, 0, 0, 0, 0, 0, [])]
def am_t_X8_trace : am_T := [am_t_X8_trace_0]
theorem am_q_X8_trace_0 : am_okQ (am_ok1 am_mt yX8_trace.cls yX8_trace.name cX8_trace 2 (some .int)) 0 am_t_X8_trace_0 = true := by decide +kernel
theorem am_q_X8_trace : am_okT (am_ok1 am_mt yX8_trace.cls yX8_trace.name cX8_trace 2 (some .int)) 0 am_t_X8_trace = true := am_okT_c am_q_X8_trace_0 (rfl)
def am_m_X8_trace : am_M := (yX8_trace, cX8_trace, 2, (some .int), 1, 875, 81, 873, 874, 1, am_t_X8_trace)
theorem am_k_X8_trace : am_okM am_mt am_m_X8_trace := ⟨by decide +kernel, am_q_X8_trace⟩
def am_t_X8_count_0 : List (Option am_I) := [some (.iload_n 1, 1, 0, 1, 0, 0, 0, 0, []), some (.tableswitch 123 0 8 #[51, 59, 67, 75, 83, 91, 99, 107, 115], 52, 124, 0, 0, 0, 0, 0, [(0, 52), (1, 60), (2, 68), (3, 76), (4, 84), (5, 92), (6, 100), (7, 108), (8, 116)]), none, none, none, none, none, none, none, none, none, none, none, none, none, none]
def am_t_X8_count_1 : List (Option am_I) := [none, none, none, none, none, none, none, none, none, none, none, none, none, none, none, none]
def am_t_X8_count_2 : List (Option am_I) := [none, none, none, none, none, none, none, none, none, none, none, none, none, none, none, none]
def am_t_X8_count_3 : List (Option am_I) := [none, none, none, none, some (.aload_n 0, 53, 0, 0, 0, 0, 0, 0, []), some (.getfield 13, 56, 0, 8, 0, 304, 0, 0, []), none, none, some (.invokevirtual 271, 59, 6, 70, 0, 885, 0, 0, []), none, none, some (.ireturn, 60, 0, 0, 0, 0, 0, 0, []), some (.aload_n 0, 61, 0, 0, 0, 0, 0, 0, []), some (.getfield 26, 64, 0, 8, 2, 306, 0, 0, []), none, none]
def am_t_X8_count_4 : List (Option am_I) := [some (.getfield 274, 67, 0, 3, 2, 135, 0, 0, []), none, none, some (.ireturn, 68, 0, 0, 0, 0, 0, 0, []), some (.aload_n 0, 69, 0, 0, 0, 0, 0, 0, []), some (.getfield 26, 72, 0, 8, 2, 306, 0, 0, []), none, none, some (.getfield 149, 75, 0, 3, 3, 137, 0, 0, []), none, none, some (.ireturn, 76, 0, 0, 0, 0, 0, 0, []), some (.aload_n 0, 77, 0, 0, 0, 0, 0, 0, []), some (.getfield 26, 80, 0, 8, 2, 306, 0, 0, []), none, none]
def am_t_X8_count_5 : List (Option am_I) := [some (.getfield 164, 83, 0, 3, 4, 143, 0, 0, []), none, none, some (.ireturn, 84, 0, 0, 0, 0, 0, 0, []), some (.aload_n 0, 85, 0, 0, 0, 0, 0, 0, []), some (.getfield 26, 88, 0, 8, 2, 306, 0, 0, []), none, none, some (.getfield 277, 91, 0, 3, 1, 131, 0, 0, []), none, none, some (.ireturn, 92, 0, 0, 0, 0, 0, 0, []), some (.aload_n 0, 93, 0, 0, 0, 0, 0, 0, []), some (.getfield 26, 96, 0, 8, 2, 306, 0, 0, []), none, none]
def am_t_X8_count_6 : List (Option am_I) := [some (.invokevirtual 160, 99, 3, 45, 0, 506, 0, 0, []), none, none, some (.ireturn, 100, 0, 0, 0, 0, 0, 0, []), some (.aload_n 0, 101, 0, 0, 0, 0, 0, 0, []), some (.getfield 42, 104, 0, 8, 6, 310, 0, 0, []), none, none, some (.getfield 190, 107, 0, 0, 1, 216, 0, 0, []), none, none, some (.ireturn, 108, 0, 0, 0, 0, 0, 0, []), some (.aload_n 0, 109, 0, 0, 0, 0, 0, 0, []), some (.getfield 22, 112, 0, 8, 1, 305, 0, 0, []), none, none]
def am_t_X8_count_7 : List (Option am_I) := [some (.getfield 280, 115, 0, 7, 1, 194, 0, 0, []), none, none, some (.ireturn, 116, 0, 0, 0, 0, 0, 0, []), some (.aload_n 0, 117, 0, 0, 0, 0, 0, 0, []), some (.getfield 26, 120, 0, 8, 2, 306, 0, 0, []), none, none, some (.getfield 283, 123, 0, 3, 5, 146, 0, 0, []), none, none, some (.ireturn, 124, 0, 0, 0, 0, 0, 0, []), some (.ldc 84, 126, 0, 0, 0, 352, (-1000001), 0, []), none, some (.ireturn, 127, 0, 0, 0, 0, 0, 0, [])]
def am_t_X8_count : am_T := [am_t_X8_count_0, am_t_X8_count_1, am_t_X8_count_2, am_t_X8_count_3, am_t_X8_count_4, am_t_X8_count_5, am_t_X8_count_6, am_t_X8_count_7]
theorem am_q_X8_count_0 : am_okQ (am_ok1 am_mt yX8_count.cls yX8_count.name cX8_count 2 (some .int)) 0 am_t_X8_count_0 = true := by decide +kernel
theorem am_q_X8_count_1 : am_okQ (am_ok1 am_mt yX8_count.cls yX8_count.name cX8_count 2 (some .int)) 1 am_t_X8_count_1 = true := by decide +kernel
theorem am_q_X8_count_2 : am_okQ (am_ok1 am_mt yX8_count.cls yX8_count.name cX8_count 2 (some .int)) 2 am_t_X8_count_2 = true := by decide +kernel
theorem am_q_X8_count_3 : am_okQ (am_ok1 am_mt yX8_count.cls yX8_count.name cX8_count 2 (some .int)) 3 am_t_X8_count_3 = true := by decide +kernel
theorem am_q_X8_count_4 : am_okQ (am_ok1 am_mt yX8_count.cls yX8_count.name cX8_count 2 (some .int)) 4 am_t_X8_count_4 = true := by decide +kernel
theorem am_q_X8_count_5 : am_okQ (am_ok1 am_mt yX8_count.cls yX8_count.name cX8_count 2 (some .int)) 5 am_t_X8_count_5 = true := by decide +kernel
theorem am_q_X8_count_6 : am_okQ (am_ok1 am_mt yX8_count.cls yX8_count.name cX8_count 2 (some .int)) 6 am_t_X8_count_6 = true := by decide +kernel
theorem am_q_X8_count_7 : am_okQ (am_ok1 am_mt yX8_count.cls yX8_count.name cX8_count 2 (some .int)) 7 am_t_X8_count_7 = true := by decide +kernel
theorem am_q_X8_count : am_okT (am_ok1 am_mt yX8_count.cls yX8_count.name cX8_count 2 (some .int)) 0 am_t_X8_count = true := am_okT_c am_q_X8_count_0 (am_okT_c am_q_X8_count_1 (am_okT_c am_q_X8_count_2 (am_okT_c am_q_X8_count_3 (am_okT_c am_q_X8_count_4 (am_okT_c am_q_X8_count_5 (am_okT_c am_q_X8_count_6 (am_okT_c am_q_X8_count_7 (rfl))))))))
def am_m_X8_count : am_M := (yX8_count, cX8_count, 2, (some .int), 1, 884, 81, 882, 883, 1, am_t_X8_count)
theorem am_k_X8_count : am_okM am_mt am_m_X8_count := ⟨by decide +kernel, am_q_X8_count⟩
def am_t_X8_status_0 : List (Option am_I) := [some (.aload_n 0, 1, 0, 0, 0, 0, 0, 0, []), some (.getfield 286, 4, 0, 8, 12, 316, 0, 0, []), none, none, some (.ireturn, 5, 0, 0, 0, 0, 0, 0, [])]
def am_t_X8_status : am_T := [am_t_X8_status_0]
theorem am_q_X8_status_0 : am_okQ (am_ok1 am_mt yX8_status.cls yX8_status.name cX8_status 1 (some .int)) 0 am_t_X8_status_0 = true := by decide +kernel
theorem am_q_X8_status : am_okT (am_ok1 am_mt yX8_status.cls yX8_status.name cX8_status 1 (some .int)) 0 am_t_X8_status = true := am_okT_c am_q_X8_status_0 (rfl)
def am_m_X8_status : am_M := (yX8_status, cX8_status, 1, (some .int), 1, 892, 81, 890, 891, 0, am_t_X8_status)
theorem am_k_X8_status : am_okM am_mt am_m_X8_status := ⟨by decide +kernel, am_q_X8_status⟩
def am_t_X8_found_0 : List (Option am_I) := [some (.aload_n 0, 1, 0, 0, 0, 0, 0, 0, []), some (.iload_n 1, 2, 0, 1, 0, 0, 0, 0, []), some (.putfield 286, 5, 0, 8, 12, 316, 0, 0, []), none, none, some (.ldc_w 289, 8, 0, 0, 0, 357, (-1000010), 0, []), none, none, some (.iload_n 1, 9, 0, 1, 0, 0, 0, 0, []), some (.isub, 10, 0, 0, 0, 0, 0, 0, []), some (.ireturn, 11, 0, 0, 0, 0, 0, 0, [])]
def am_t_X8_found : am_T := [am_t_X8_found_0]
theorem am_q_X8_found_0 : am_okQ (am_ok1 am_mt yX8_found.cls yX8_found.name cX8_found 2 (some .int)) 0 am_t_X8_found_0 = true := by decide +kernel
theorem am_q_X8_found : am_okT (am_ok1 am_mt yX8_found.cls yX8_found.name cX8_found 2 (some .int)) 0 am_t_X8_found = true := am_okT_c am_q_X8_found_0 (rfl)
def am_m_X8_found : am_M := (yX8_found, cX8_found, 2, (some .int), 1, 356, 81, 355, 0, 1, am_t_X8_found)
theorem am_k_X8_found : am_okM am_mt am_m_X8_found := ⟨by decide +kernel, am_q_X8_found⟩
def am_t_X8_foundNothing_0 : List (Option am_I) := [some (.aload_n 0, 1, 0, 0, 0, 0, 0, 0, []), some (.iconst 0, 2, 0, 0, 0, 0, 0, 0, []), some (.putfield 286, 5, 0, 8, 12, 316, 0, 0, []), none, none, some (.iload_n 1, 6, 0, 1, 0, 0, 0, 0, []), some (.ireturn, 7, 0, 0, 0, 0, 0, 0, [])]
def am_t_X8_foundNothing : am_T := [am_t_X8_foundNothing_0]
theorem am_q_X8_foundNothing_0 : am_okQ (am_ok1 am_mt yX8_foundNothing.cls yX8_foundNothing.name cX8_foundNothing 2 (some .int)) 0 am_t_X8_foundNothing_0 = true := by decide +kernel
theorem am_q_X8_foundNothing : am_okT (am_ok1 am_mt yX8_foundNothing.cls yX8_foundNothing.name cX8_foundNothing 2 (some .int)) 0 am_t_X8_foundNothing = true := am_okT_c am_q_X8_foundNothing_0 (rfl)
def am_m_X8_foundNothing : am_M := (yX8_foundNothing, cX8_foundNothing, 2, (some .int), 1, 365, 81, 364, 1, 1, am_t_X8_foundNothing)
theorem am_k_X8_foundNothing : am_okM am_mt am_m_X8_foundNothing := ⟨by decide +kernel, am_q_X8_foundNothing⟩
def am_t_X8_imageOf_0 : List (Option am_I) := [some (.iload_n 1, 1, 0, 1, 0, 0, 0, 0, []), some (.ifCond .ne 10, 4, 11, 0, 0, 0, 0, 0, []), none, none, some (.aload_n 0, 5, 0, 0, 0, 0, 0, 0, []), some (.getfield 33, 8, 0, 8, 4, 308, 0, 0, []), none, none, some (.goto 7, 11, 15, 0, 0, 0, 0, 0, []), none, none, some (.aload_n 0, 12, 0, 0, 0, 0, 0, 0, []), some (.getfield 36, 15, 0, 8, 5, 309, 0, 0, []), none, none, some (.areturn, 16, 0, 0, 0, 0, 0, 0, [])]
def am_t_X8_imageOf : am_T := [am_t_X8_imageOf_0]
theorem am_q_X8_imageOf_0 : am_okQ (am_ok1 am_mt yX8_imageOf.cls yX8_imageOf.name cX8_imageOf 2 (some (.object "HoarseHill$Hill"))) 0 am_t_X8_imageOf_0 = true := by decide +kernel
theorem am_q_X8_imageOf : am_okT (am_ok1 am_mt yX8_imageOf.cls yX8_imageOf.name cX8_imageOf 2 (some (.object "HoarseHill$Hill"))) 0 am_t_X8_imageOf = true := am_okT_c am_q_X8_imageOf_0 (rfl)
def am_m_X8_imageOf : am_M := (yX8_imageOf, cX8_imageOf, 2, (some (.object "HoarseHill$Hill")), 1, 795, 81, 794, 21, 1, am_t_X8_imageOf)
theorem am_k_X8_imageOf : am_okM am_mt am_m_X8_imageOf := ⟨by decide +kernel, am_q_X8_imageOf⟩
def am_t_X8_isEither_0 : List (Option am_I) := [some (.iload_n 0, 1, 0, 0, 0, 0, 0, 0, []), some (.ifCond .eq 8, 4, 9, 0, 0, 0, 0, 0, []), none, none, some (.iload_n 0, 5, 0, 0, 0, 0, 0, 0, []), some (.iconst 1, 6, 0, 0, 0, 0, 1, 0, []), some (.if_icmp .ne 7, 9, 13, 0, 0, 0, 0, 0, []), none, none, some (.iconst 1, 10, 0, 0, 0, 0, 1, 0, []), some (.goto 4, 13, 14, 0, 0, 0, 0, 0, []), none, none, some (.iconst 0, 14, 0, 0, 0, 0, 0, 0, []), some (.ireturn, 15, 1, 0, 0, 0, 0, 0, [])]
def am_t_X8_isEither : am_T := [am_t_X8_isEither_0]
theorem am_q_X8_isEither_0 : am_okQ (am_ok1 am_mt yX8_isEither.cls yX8_isEither.name cX8_isEither 1 (some .boolean)) 0 am_t_X8_isEither_0 = true := by decide +kernel
theorem am_q_X8_isEither : am_okT (am_ok1 am_mt yX8_isEither.cls yX8_isEither.name cX8_isEither 1 (some .boolean)) 0 am_t_X8_isEither = true := am_okT_c am_q_X8_isEither_0 (rfl)
def am_m_X8_isEither : am_M := (yX8_isEither, cX8_isEither, 1, (some .boolean), 0, 601, 81, 600, 0, 1, am_t_X8_isEither)
theorem am_k_X8_isEither : am_okM am_mt am_m_X8_isEither := ⟨by decide +kernel, am_q_X8_isEither⟩
def am_t_X8_isPick_0 : List (Option am_I) := [some (.iload_n 0, 1, 0, 0, 0, 0, 0, 0, []), some (.iconst (-1), 2, 0, 0, 0, 0, (-1), 0, []), some (.if_icmp .lt 12, 5, 14, 0, 0, 0, 0, 0, []), none, none, some (.iload_n 0, 6, 0, 0, 0, 0, 0, 0, []), some (.iconst 3, 7, 0, 0, 0, 0, 3, 0, []), some (.if_icmp .gt 7, 10, 14, 0, 0, 0, 0, 0, []), none, none, some (.iconst 1, 11, 0, 0, 0, 0, 1, 0, []), some (.goto 4, 14, 15, 0, 0, 0, 0, 0, []), none, none, some (.iconst 0, 15, 0, 0, 0, 0, 0, 0, []), some (.ireturn, 16, 1, 0, 0, 0, 0, 0, [])]
def am_t_X8_isPick : am_T := [am_t_X8_isPick_0]
theorem am_q_X8_isPick_0 : am_okQ (am_ok1 am_mt yX8_isPick.cls yX8_isPick.name cX8_isPick 1 (some .boolean)) 0 am_t_X8_isPick_0 = true := by decide +kernel
theorem am_q_X8_isPick : am_okT (am_ok1 am_mt yX8_isPick.cls yX8_isPick.name cX8_isPick 1 (some .boolean)) 0 am_t_X8_isPick = true := am_okT_c am_q_X8_isPick_0 (rfl)
def am_m_X8_isPick : am_M := (yX8_isPick, cX8_isPick, 1, (some .boolean), 0, 636, 81, 635, 0, 1, am_t_X8_isPick)
theorem am_k_X8_isPick : am_okM am_mt am_m_X8_isPick := ⟨by decide +kernel, am_q_X8_isPick⟩
def am_t_X8_isOfKind_0 : List (Option am_I) := [some (.iload_n 1, 1, 0, 1, 0, 0, 0, 0, []), some (.ifCond .eq 33, 4, 34, 0, 0, 0, 0, 0, []), none, none, some (.iload_n 1, 5, 0, 1, 0, 0, 0, 0, []), some (.iload_n 0, 6, 0, 0, 0, 0, 0, 0, []), some (.if_icmp .eq 28, 9, 34, 0, 0, 0, 0, 0, []), none, none, some (.iload_n 1, 10, 0, 1, 0, 0, 0, 0, []), some (.iconst 1, 11, 0, 0, 0, 0, 1, 0, []), some (.if_icmp .ne 13, 14, 24, 0, 0, 0, 0, 0, []), none, none, some (.iload_n 0, 15, 0, 0, 0, 0, 0, 0, []), some (.iconst 2, 16, 0, 0, 0, 0, 2, 0, [])]
def am_t_X8_isOfKind_1 : List (Option am_I) := [some (.if_icmp .eq 18, 19, 34, 0, 0, 0, 0, 0, []), none, none, some (.iload_n 0, 20, 0, 0, 0, 0, 0, 0, []), some (.iconst 3, 21, 0, 0, 0, 0, 3, 0, []), some (.if_icmp .eq 13, 24, 34, 0, 0, 0, 0, 0, []), none, none, some (.iload_n 1, 25, 0, 1, 0, 0, 0, 0, []), some (.iconst 4, 26, 0, 0, 0, 0, 4, 0, []), some (.if_icmp .ne 12, 29, 38, 0, 0, 0, 0, 0, []), none, none, some (.iload_n 0, 30, 0, 0, 0, 0, 0, 0, []), some (.iconst 5, 31, 0, 0, 0, 0, 5, 0, []), some (.if_icmp .ne 7, 34, 38, 0, 0, 0, 0, 0, [])]
def am_t_X8_isOfKind_2 : List (Option am_I) := [none, none, some (.iconst 1, 35, 0, 0, 0, 0, 1, 0, []), some (.goto 4, 38, 39, 0, 0, 0, 0, 0, []), none, none, some (.iconst 0, 39, 0, 0, 0, 0, 0, 0, []), some (.ireturn, 40, 1, 0, 0, 0, 0, 0, [])]
def am_t_X8_isOfKind : am_T := [am_t_X8_isOfKind_0, am_t_X8_isOfKind_1, am_t_X8_isOfKind_2]
theorem am_q_X8_isOfKind_0 : am_okQ (am_ok1 am_mt yX8_isOfKind.cls yX8_isOfKind.name cX8_isOfKind 2 (some .boolean)) 0 am_t_X8_isOfKind_0 = true := by decide +kernel
theorem am_q_X8_isOfKind_1 : am_okQ (am_ok1 am_mt yX8_isOfKind.cls yX8_isOfKind.name cX8_isOfKind 2 (some .boolean)) 1 am_t_X8_isOfKind_1 = true := by decide +kernel
theorem am_q_X8_isOfKind_2 : am_okQ (am_ok1 am_mt yX8_isOfKind.cls yX8_isOfKind.name cX8_isOfKind 2 (some .boolean)) 2 am_t_X8_isOfKind_2 = true := by decide +kernel
theorem am_q_X8_isOfKind : am_okT (am_ok1 am_mt yX8_isOfKind.cls yX8_isOfKind.name cX8_isOfKind 2 (some .boolean)) 0 am_t_X8_isOfKind = true := am_okT_c am_q_X8_isOfKind_0 (am_okT_c am_q_X8_isOfKind_1 (am_okT_c am_q_X8_isOfKind_2 (rfl)))
def am_m_X8_isOfKind : am_M := (yX8_isOfKind, cX8_isOfKind, 2, (some .boolean), 0, 810, 81, 809, 0, 2, am_t_X8_isOfKind)
theorem am_k_X8_isOfKind : am_okM am_mt am_m_X8_isOfKind := ⟨by decide +kernel, am_q_X8_isOfKind⟩
def am_t_X8_breathAfterLozenges_0 : List (Option am_I) := [some (.bipush 20, 2, 0, 0, 0, 0, 20, 0, []), none, some (.iload_n 0, 3, 0, 0, 0, 0, 0, 0, []), some (.iconst 5, 4, 0, 0, 0, 0, 5, 0, []), some (.iload_n 1, 5, 0, 1, 0, 0, 0, 0, []), some (.imul, 6, 0, 0, 0, 0, 0, 0, []), some (.iadd, 7, 0, 0, 0, 0, 0, 0, []), some (.invokestatic 290, 10, 0, 229, 2, 559, 0, 0, []), none, none, some (.ireturn, 11, 0, 0, 0, 0, 0, 0, [])]
def am_t_X8_breathAfterLozenges : am_T := [am_t_X8_breathAfterLozenges_0]
theorem am_q_X8_breathAfterLozenges_0 : am_okQ (am_ok1 am_mt yX8_breathAfterLozenges.cls yX8_breathAfterLozenges.name cX8_breathAfterLozenges 2 (some .int)) 0 am_t_X8_breathAfterLozenges_0 = true := by decide +kernel
theorem am_q_X8_breathAfterLozenges : am_okT (am_ok1 am_mt yX8_breathAfterLozenges.cls yX8_breathAfterLozenges.name cX8_breathAfterLozenges 2 (some .int)) 0 am_t_X8_breathAfterLozenges = true := am_okT_c am_q_X8_breathAfterLozenges_0 (rfl)
def am_m_X8_breathAfterLozenges : am_M := (yX8_breathAfterLozenges, cX8_breathAfterLozenges, 2, (some .int), 0, 558, 81, 557, 0, 2, am_t_X8_breathAfterLozenges)
theorem am_k_X8_breathAfterLozenges : am_okM am_mt am_m_X8_breathAfterLozenges := ⟨by decide +kernel, am_q_X8_breathAfterLozenges⟩
def am_t_X8_lowest_0 : List (Option am_I) := [some (.iload_n 0, 1, 0, 0, 0, 0, 0, 0, []), some (.iload_n 1, 2, 0, 1, 0, 0, 0, 0, []), some (.invokestatic 295, 5, 0, 135, 2, 610, 0, 0, []), none, none, some (.istore_n 3, 6, 0, 3, 0, 0, 0, 0, []), some (.iload_n 3, 7, 0, 3, 0, 0, 0, 0, []), some (.ifCond .ne 5, 10, 12, 0, 0, 0, 0, 0, []), none, none, some (.iload_n 2, 11, 0, 2, 0, 0, 0, 0, []), some (.ireturn, 12, 0, 0, 0, 0, 0, 0, []), some (.iload_n 2, 13, 0, 2, 0, 0, 0, 0, []), some (.ifCond .ne 7, 16, 20, 0, 0, 0, 0, 0, []), none, none]
def am_t_X8_lowest_1 : List (Option am_I) := [some (.iload_n 0, 17, 0, 0, 0, 0, 0, 0, []), some (.goto 4, 20, 21, 0, 0, 0, 0, 0, []), none, none, some (.iload_n 1, 21, 0, 1, 0, 0, 0, 0, []), some (.iload_n 3, 22, 0, 3, 0, 0, 0, 0, []), some (.idiv, 23, 0, 0, 0, 0, 0, 0, []), some (.ireturn, 24, 0, 0, 0, 0, 0, 0, [])]
def am_t_X8_lowest : am_T := [am_t_X8_lowest_0, am_t_X8_lowest_1]
theorem am_q_X8_lowest_0 : am_okQ (am_ok1 am_mt yX8_lowest.cls yX8_lowest.name cX8_lowest 4 (some .int)) 0 am_t_X8_lowest_0 = true := by decide +kernel
theorem am_q_X8_lowest_1 : am_okQ (am_ok1 am_mt yX8_lowest.cls yX8_lowest.name cX8_lowest 4 (some .int)) 1 am_t_X8_lowest_1 = true := by decide +kernel
theorem am_q_X8_lowest : am_okT (am_ok1 am_mt yX8_lowest.cls yX8_lowest.name cX8_lowest 4 (some .int)) 0 am_t_X8_lowest = true := am_okT_c am_q_X8_lowest_0 (am_okT_c am_q_X8_lowest_1 (rfl))
def am_m_X8_lowest : am_M := (yX8_lowest, cX8_lowest, 4, (some .int), 0, 609, 81, 608, 0, 3, am_t_X8_lowest)
theorem am_k_X8_lowest : am_okM am_mt am_m_X8_lowest := ⟨by decide +kernel, am_q_X8_lowest⟩
def am_t_X8_greatestShared_0 : List (Option am_I) := [some (.iload_n 0, 1, 0, 0, 0, 0, 0, 0, []), some (.istore_n 2, 2, 0, 2, 0, 0, 0, 0, []), some (.iload_n 1, 3, 0, 1, 0, 0, 0, 0, []), some (.istore_n 3, 4, 0, 3, 0, 0, 0, 0, []), some (.iconst 0, 5, 0, 0, 0, 0, 0, 0, []), some (.istore 4, 7, 0, 4, 0, 0, 0, 0, []), none, some (.iload 4, 9, 0, 4, 0, 0, 0, 0, []), none, some (.bipush 64, 11, 0, 0, 0, 0, 64, 0, []), none, some (.if_icmp .ge 23, 14, 34, 0, 0, 0, 0, 0, []), none, none, some (.iload_n 3, 15, 0, 3, 0, 0, 0, 0, []), some (.ifCond .eq 19, 18, 34, 0, 0, 0, 0, 0, [])]
def am_t_X8_greatestShared_1 : List (Option am_I) := [none, none, some (.iload_n 2, 19, 0, 2, 0, 0, 0, 0, []), some (.iload_n 3, 20, 0, 3, 0, 0, 0, 0, []), some (.irem, 21, 0, 0, 0, 0, 0, 0, []), some (.istore 5, 23, 0, 5, 0, 0, 0, 0, []), none, some (.iload_n 3, 24, 0, 3, 0, 0, 0, 0, []), some (.istore_n 2, 25, 0, 2, 0, 0, 0, 0, []), some (.iload 5, 27, 0, 5, 0, 0, 0, 0, []), none, some (.istore_n 3, 28, 0, 3, 0, 0, 0, 0, []), some (.iinc 4 1, 31, 0, 4, 0, 0, 1, 0, []), none, none, some (.goto (-24), 34, 7, 0, 0, 0, 0, 0, [])]
def am_t_X8_greatestShared_2 : List (Option am_I) := [none, none, some (.iload_n 2, 35, 0, 2, 0, 0, 0, 0, []), some (.ireturn, 36, 0, 0, 0, 0, 0, 0, [])]
def am_t_X8_greatestShared : am_T := [am_t_X8_greatestShared_0, am_t_X8_greatestShared_1, am_t_X8_greatestShared_2]
theorem am_q_X8_greatestShared_0 : am_okQ (am_ok1 am_mt yX8_greatestShared.cls yX8_greatestShared.name cX8_greatestShared 6 (some .int)) 0 am_t_X8_greatestShared_0 = true := by decide +kernel
theorem am_q_X8_greatestShared_1 : am_okQ (am_ok1 am_mt yX8_greatestShared.cls yX8_greatestShared.name cX8_greatestShared 6 (some .int)) 1 am_t_X8_greatestShared_1 = true := by decide +kernel
theorem am_q_X8_greatestShared_2 : am_okQ (am_ok1 am_mt yX8_greatestShared.cls yX8_greatestShared.name cX8_greatestShared 6 (some .int)) 2 am_t_X8_greatestShared_2 = true := by decide +kernel
theorem am_q_X8_greatestShared : am_okT (am_ok1 am_mt yX8_greatestShared.cls yX8_greatestShared.name cX8_greatestShared 6 (some .int)) 0 am_t_X8_greatestShared = true := am_okT_c am_q_X8_greatestShared_0 (am_okT_c am_q_X8_greatestShared_1 (am_okT_c am_q_X8_greatestShared_2 (rfl)))
def am_m_X8_greatestShared : am_M := (yX8_greatestShared, cX8_greatestShared, 6, (some .int), 0, 612, 81, 611, 0, 2, am_t_X8_greatestShared)
theorem am_k_X8_greatestShared : am_okM am_mt am_m_X8_greatestShared := ⟨by decide +kernel, am_q_X8_greatestShared⟩
def am_t_X9_init_0 : List (Option am_I) := [some (.aload_n 0, 1, 0, 0, 0, 0, 0, 0, []), some (.invokespecial 1, 4, 2, 0, 0, 898, 0, 0, []), none, none, some (.aload_n 0, 5, 0, 0, 0, 0, 0, 0, []), some (.sipush 672, 8, 0, 0, 0, 0, 672, 0, []), none, none, some (.newarray .int, 10, 0, 0, 672, 0, 0, 0, []), none, some (.putfield 7, 13, 2, 9, 0, 899, 0, 0, []), none, none, some (.aload_n 0, 14, 0, 0, 0, 0, 0, 0, []), some (.iconst 2, 15, 0, 0, 0, 0, 2, 0, []), some (.newarray .boolean, 17, 0, 0, 2, 0, 0, 0, [])]
def am_t_X9_init_1 : List (Option am_I) := [none, some (.putfield 13, 20, 2, 9, 3, 902, 0, 0, []), none, none, some (.aload_n 0, 21, 0, 0, 0, 0, 0, 0, []), some (.bipush 8, 23, 0, 0, 0, 0, 8, 0, []), none, some (.newarray .int, 25, 0, 0, 8, 0, 0, 0, []), none, some (.putfield 17, 28, 2, 9, 4, 903, 0, 0, []), none, none, some (.aload_n 0, 29, 0, 0, 0, 0, 0, 0, []), some (.bipush 8, 31, 0, 0, 0, 0, 8, 0, []), none, some (.newarray .int, 33, 0, 0, 8, 0, 0, 0, [])]
def am_t_X9_init_2 : List (Option am_I) := [none, some (.dup, 34, 0, 0, 0, 0, 0, 0, []), some (.iconst 0, 35, 0, 0, 0, 0, 0, 0, []), some (.iconst (-1), 36, 0, 0, 0, 0, (-1), 0, []), some (.iastore, 37, 0, 0, 0, 0, 0, 0, []), some (.dup, 38, 0, 0, 0, 0, 0, 0, []), some (.iconst 1, 39, 0, 0, 0, 0, 1, 0, []), some (.iconst (-1), 40, 0, 0, 0, 0, (-1), 0, []), some (.iastore, 41, 0, 0, 0, 0, 0, 0, []), some (.dup, 42, 0, 0, 0, 0, 0, 0, []), some (.iconst 2, 43, 0, 0, 0, 0, 2, 0, []), some (.iconst (-1), 44, 0, 0, 0, 0, (-1), 0, []), some (.iastore, 45, 0, 0, 0, 0, 0, 0, []), some (.dup, 46, 0, 0, 0, 0, 0, 0, []), some (.iconst 3, 47, 0, 0, 0, 0, 3, 0, []), some (.iconst (-1), 48, 0, 0, 0, 0, (-1), 0, [])]
def am_t_X9_init_3 : List (Option am_I) := [some (.iastore, 49, 0, 0, 0, 0, 0, 0, []), some (.dup, 50, 0, 0, 0, 0, 0, 0, []), some (.iconst 4, 51, 0, 0, 0, 0, 4, 0, []), some (.iconst (-1), 52, 0, 0, 0, 0, (-1), 0, []), some (.iastore, 53, 0, 0, 0, 0, 0, 0, []), some (.dup, 54, 0, 0, 0, 0, 0, 0, []), some (.iconst 5, 55, 0, 0, 0, 0, 5, 0, []), some (.iconst (-1), 56, 0, 0, 0, 0, (-1), 0, []), some (.iastore, 57, 0, 0, 0, 0, 0, 0, []), some (.dup, 58, 0, 0, 0, 0, 0, 0, []), some (.bipush 6, 60, 0, 0, 0, 0, 6, 0, []), none, some (.iconst (-1), 61, 0, 0, 0, 0, (-1), 0, []), some (.iastore, 62, 0, 0, 0, 0, 0, 0, []), some (.dup, 63, 0, 0, 0, 0, 0, 0, []), some (.bipush 7, 65, 0, 0, 0, 0, 7, 0, [])]
def am_t_X9_init_4 : List (Option am_I) := [none, some (.iconst (-1), 66, 0, 0, 0, 0, (-1), 0, []), some (.iastore, 67, 0, 0, 0, 0, 0, 0, []), some (.putfield 20, 70, 2, 9, 5, 904, 0, 0, []), none, none, some (.aload_n 0, 71, 0, 0, 0, 0, 0, 0, []), some (.sipush 320, 74, 0, 0, 0, 0, 320, 0, []), none, none, some (.newarray .int, 76, 0, 0, 320, 0, 0, 0, []), none, some (.putfield 23, 79, 2, 9, 6, 905, 0, 0, []), none, none, some (.aload_n 0, 80, 0, 0, 0, 0, 0, 0, [])]
def am_t_X9_init_5 : List (Option am_I) := [some (.bipush 100, 82, 0, 0, 0, 0, 100, 0, []), none, some (.newarray .int, 84, 0, 0, 100, 0, 0, 0, []), none, some (.putfield 26, 87, 2, 9, 7, 906, 0, 0, []), none, none, some (.aload_n 0, 88, 0, 0, 0, 0, 0, 0, []), some (.bipush 16, 90, 0, 0, 0, 0, 16, 0, []), none, some (.newarray .int, 92, 0, 0, 16, 0, 0, 0, []), none, some (.putfield 29, 95, 2, 9, 11, 910, 0, 0, []), none, none, some (.aload_n 0, 96, 0, 0, 0, 0, 0, 0, [])]
def am_t_X9_init_6 : List (Option am_I) := [some (.iconst 5, 97, 0, 0, 0, 0, 5, 0, []), some (.newarray .int, 99, 0, 0, 5, 0, 0, 0, []), none, some (.putfield 32, 102, 2, 9, 16, 915, 0, 0, []), none, none, some (.aload_n 0, 103, 0, 0, 0, 0, 0, 0, []), some (.iconst 4, 104, 0, 0, 0, 0, 4, 0, []), some (.newarray .int, 106, 0, 0, 4, 0, 0, 0, []), none, some (.putfield 35, 109, 2, 9, 17, 916, 0, 0, []), none, none, some (.aload_n 0, 110, 0, 0, 0, 0, 0, 0, []), some (.iconst 4, 111, 0, 0, 0, 0, 4, 0, []), some (.newarray .int, 113, 0, 0, 4, 0, 0, 0, [])]
def am_t_X9_init_7 : List (Option am_I) := [none, some (.putfield 38, 116, 2, 9, 18, 917, 0, 0, []), none, none, some (.return_, 117, 0, 0, 0, 0, 0, 0, [])]
def am_t_X9_init : am_T := [am_t_X9_init_0, am_t_X9_init_1, am_t_X9_init_2, am_t_X9_init_3, am_t_X9_init_4, am_t_X9_init_5, am_t_X9_init_6, am_t_X9_init_7]
theorem am_q_X9_init_0 : am_okQ (am_ok1 am_mt yX9_init.cls yX9_init.name cX9_init 1 none) 0 am_t_X9_init_0 = true := by decide +kernel
theorem am_q_X9_init_1 : am_okQ (am_ok1 am_mt yX9_init.cls yX9_init.name cX9_init 1 none) 1 am_t_X9_init_1 = true := by decide +kernel
theorem am_q_X9_init_2 : am_okQ (am_ok1 am_mt yX9_init.cls yX9_init.name cX9_init 1 none) 2 am_t_X9_init_2 = true := by decide +kernel
theorem am_q_X9_init_3 : am_okQ (am_ok1 am_mt yX9_init.cls yX9_init.name cX9_init 1 none) 3 am_t_X9_init_3 = true := by decide +kernel
theorem am_q_X9_init_4 : am_okQ (am_ok1 am_mt yX9_init.cls yX9_init.name cX9_init 1 none) 4 am_t_X9_init_4 = true := by decide +kernel
theorem am_q_X9_init_5 : am_okQ (am_ok1 am_mt yX9_init.cls yX9_init.name cX9_init 1 none) 5 am_t_X9_init_5 = true := by decide +kernel
theorem am_q_X9_init_6 : am_okQ (am_ok1 am_mt yX9_init.cls yX9_init.name cX9_init 1 none) 6 am_t_X9_init_6 = true := by decide +kernel
theorem am_q_X9_init_7 : am_okQ (am_ok1 am_mt yX9_init.cls yX9_init.name cX9_init 1 none) 7 am_t_X9_init_7 = true := by decide +kernel
theorem am_q_X9_init : am_okT (am_ok1 am_mt yX9_init.cls yX9_init.name cX9_init 1 none) 0 am_t_X9_init = true := am_okT_c am_q_X9_init_0 (am_okT_c am_q_X9_init_1 (am_okT_c am_q_X9_init_2 (am_okT_c am_q_X9_init_3 (am_okT_c am_q_X9_init_4 (am_okT_c am_q_X9_init_5 (am_okT_c am_q_X9_init_6 (am_okT_c am_q_X9_init_7 (rfl))))))))
def am_m_X9_init : am_M := (yX9_init, cX9_init, 1, none, 2, 897, 90, 896, 0, 0, am_t_X9_init)
theorem am_k_X9_init : am_okM am_mt am_m_X9_init := ⟨by decide +kernel, am_q_X9_init⟩
def am_t_X9_in_0 : List (Option am_I) := [some (.lload_n 0, 1, 0, 0, 0, 0, 0, 0, []), some (.lload_n 2, 2, 0, 2, 0, 0, 0, 0, []), some (.lcmp, 3, 0, 0, 0, 0, 0, 0, []), some (.ifCond .lt 14, 6, 17, 0, 0, 0, 0, 0, []), none, none, some (.lload_n 0, 7, 0, 0, 0, 0, 0, 0, []), some (.lload 4, 9, 0, 4, 0, 0, 0, 0, []), none, some (.lcmp, 10, 0, 0, 0, 0, 0, 0, []), some (.ifCond .gt 7, 13, 17, 0, 0, 0, 0, 0, []), none, none, some (.iconst 1, 14, 0, 0, 0, 0, 1, 0, []), some (.goto 4, 17, 18, 0, 0, 0, 0, 0, []), none]
def am_t_X9_in_1 : List (Option am_I) := [none, some (.iconst 0, 18, 0, 0, 0, 0, 0, 0, []), some (.ireturn, 19, 1, 0, 0, 0, 0, 0, [])]
def am_t_X9_in : am_T := [am_t_X9_in_0, am_t_X9_in_1]
theorem am_q_X9_in_0 : am_okQ (am_ok1 am_mt yX9_in.cls yX9_in.name cX9_in 6 (some .boolean)) 0 am_t_X9_in_0 = true := by decide +kernel
theorem am_q_X9_in_1 : am_okQ (am_ok1 am_mt yX9_in.cls yX9_in.name cX9_in 6 (some .boolean)) 1 am_t_X9_in_1 = true := by decide +kernel
theorem am_q_X9_in : am_okT (am_ok1 am_mt yX9_in.cls yX9_in.name cX9_in 6 (some .boolean)) 0 am_t_X9_in = true := am_okT_c am_q_X9_in_0 (am_okT_c am_q_X9_in_1 (rfl))
def am_m_X9_in : am_M := (yX9_in, cX9_in, 6, (some .boolean), 0, 968, 90, 967, 0, 3, am_t_X9_in)
theorem am_k_X9_in : am_okM am_mt am_m_X9_in := ⟨by decide +kernel, am_q_X9_in⟩
def am_t_X9_has_0 : List (Option am_I) := [some (.iload_n 0, 1, 0, 0, 0, 0, 0, 0, []), some (.iload_n 1, 2, 0, 1, 0, 0, 0, 0, []), some (.ishr, 3, 0, 0, 0, 0, 0, 0, []), some (.iconst 1, 4, 0, 0, 0, 0, 1, 0, []), some (.iand, 5, 0, 0, 0, 0, 0, 0, []), some (.iconst 1, 6, 0, 0, 0, 0, 1, 0, []), some (.if_icmp .ne 7, 9, 13, 0, 0, 0, 0, 0, []), none, none, some (.iconst 1, 10, 0, 0, 0, 0, 1, 0, []), some (.goto 4, 13, 14, 0, 0, 0, 0, 0, []), none, none, some (.iconst 0, 14, 0, 0, 0, 0, 0, 0, []), some (.ireturn, 15, 1, 0, 0, 0, 0, 0, [])]
def am_t_X9_has : am_T := [am_t_X9_has_0]
theorem am_q_X9_has_0 : am_okQ (am_ok1 am_mt yX9_has.cls yX9_has.name cX9_has 2 (some .boolean)) 0 am_t_X9_has_0 = true := by decide +kernel
theorem am_q_X9_has : am_okT (am_ok1 am_mt yX9_has.cls yX9_has.name cX9_has 2 (some .boolean)) 0 am_t_X9_has = true := am_okT_c am_q_X9_has_0 (rfl)
def am_m_X9_has : am_M := (yX9_has, cX9_has, 2, (some .boolean), 0, 1109, 90, 1108, 0, 2, am_t_X9_has)
theorem am_k_X9_has : am_okM am_mt am_m_X9_has := ⟨by decide +kernel, am_q_X9_has⟩
def am_t_X9_between_0 : List (Option am_I) := [some (.iload_n 0, 1, 0, 0, 0, 0, 0, 0, []), some (.ifCond .ge 7, 4, 8, 0, 0, 0, 0, 0, []), none, none, some (.iconst 0, 5, 0, 0, 0, 0, 0, 0, []), some (.goto 15, 8, 20, 0, 0, 0, 0, 0, []), none, none, some (.iload_n 0, 9, 0, 0, 0, 0, 0, 0, []), some (.bipush 20, 11, 0, 0, 0, 0, 20, 0, []), none, some (.if_icmp .le 8, 14, 19, 0, 0, 0, 0, 0, []), none, none, some (.bipush 20, 16, 0, 0, 0, 0, 20, 0, []), none]
def am_t_X9_between_1 : List (Option am_I) := [some (.goto 4, 19, 20, 0, 0, 0, 0, 0, []), none, none, some (.iload_n 0, 20, 0, 0, 0, 0, 0, 0, []), some (.ireturn, 21, 0, 0, 0, 0, 0, 0, [])]
def am_t_X9_between : am_T := [am_t_X9_between_0, am_t_X9_between_1]
theorem am_q_X9_between_0 : am_okQ (am_ok1 am_mt yX9_between.cls yX9_between.name cX9_between 1 (some .int)) 0 am_t_X9_between_0 = true := by decide +kernel
theorem am_q_X9_between_1 : am_okQ (am_ok1 am_mt yX9_between.cls yX9_between.name cX9_between 1 (some .int)) 1 am_t_X9_between_1 = true := by decide +kernel
theorem am_q_X9_between : am_okT (am_ok1 am_mt yX9_between.cls yX9_between.name cX9_between 1 (some .int)) 0 am_t_X9_between = true := am_okT_c am_q_X9_between_0 (am_okT_c am_q_X9_between_1 (rfl))
def am_m_X9_between : am_M := (yX9_between, cX9_between, 1, (some .int), 0, 1119, 90, 1118, 0, 1, am_t_X9_between)
theorem am_k_X9_between : am_okM am_mt am_m_X9_between := ⟨by decide +kernel, am_q_X9_between⟩
def am_t_X9_bits_0 : List (Option am_I) := [some (.iconst 0, 1, 0, 0, 0, 0, 0, 0, []), some (.istore_n 1, 2, 0, 1, 0, 0, 0, 0, []), some (.iconst 0, 3, 0, 0, 0, 0, 0, 0, []), some (.istore_n 2, 4, 0, 2, 0, 0, 0, 0, []), some (.iload_n 2, 5, 0, 2, 0, 0, 0, 0, []), some (.iconst 4, 6, 0, 0, 0, 0, 4, 0, []), some (.if_icmp .ge 17, 9, 23, 0, 0, 0, 0, 0, []), none, none, some (.iload_n 1, 10, 0, 1, 0, 0, 0, 0, []), some (.iload_n 0, 11, 0, 0, 0, 0, 0, 0, []), some (.iload_n 2, 12, 0, 2, 0, 0, 0, 0, []), some (.ishr, 13, 0, 0, 0, 0, 0, 0, []), some (.iconst 1, 14, 0, 0, 0, 0, 1, 0, []), some (.iand, 15, 0, 0, 0, 0, 0, 0, []), some (.iadd, 16, 0, 0, 0, 0, 0, 0, [])]
def am_t_X9_bits_1 : List (Option am_I) := [some (.istore_n 1, 17, 0, 1, 0, 0, 0, 0, []), some (.iinc 2 1, 20, 0, 2, 0, 0, 1, 0, []), none, none, some (.goto (-16), 23, 4, 0, 0, 0, 0, 0, []), none, none, some (.iload_n 1, 24, 0, 1, 0, 0, 0, 0, []), some (.ireturn, 25, 0, 0, 0, 0, 0, 0, [])]
def am_t_X9_bits : am_T := [am_t_X9_bits_0, am_t_X9_bits_1]
theorem am_q_X9_bits_0 : am_okQ (am_ok1 am_mt yX9_bits.cls yX9_bits.name cX9_bits 3 (some .int)) 0 am_t_X9_bits_0 = true := by decide +kernel
theorem am_q_X9_bits_1 : am_okQ (am_ok1 am_mt yX9_bits.cls yX9_bits.name cX9_bits 3 (some .int)) 1 am_t_X9_bits_1 = true := by decide +kernel
theorem am_q_X9_bits : am_okT (am_ok1 am_mt yX9_bits.cls yX9_bits.name cX9_bits 3 (some .int)) 0 am_t_X9_bits = true := am_okT_c am_q_X9_bits_0 (am_okT_c am_q_X9_bits_1 (rfl))
def am_m_X9_bits : am_M := (yX9_bits, cX9_bits, 3, (some .int), 0, 1116, 90, 1115, 0, 1, am_t_X9_bits)
theorem am_k_X9_bits : am_okM am_mt am_m_X9_bits := ⟨by decide +kernel, am_q_X9_bits⟩
def am_t_X9_find_0 : List (Option am_I) := [some (.aload_n 0, 1, 0, 0, 0, 0, 0, 0, []), some (.iload_n 1, 2, 0, 1, 0, 0, 0, 0, []), some (.putfield 41, 5, 0, 9, 10, 909, 0, 0, []), none, none, some (.ldc 45, 7, 0, 0, 0, 975, (-1000010), 0, []), none, some (.iload_n 1, 8, 0, 1, 0, 0, 0, 0, []), some (.isub, 9, 0, 0, 0, 0, 0, 0, []), some (.ireturn, 10, 0, 0, 0, 0, 0, 0, [])]
def am_t_X9_find : am_T := [am_t_X9_find_0]
theorem am_q_X9_find_0 : am_okQ (am_ok1 am_mt yX9_find.cls yX9_find.name cX9_find 2 (some .int)) 0 am_t_X9_find_0 = true := by decide +kernel
theorem am_q_X9_find : am_okT (am_ok1 am_mt yX9_find.cls yX9_find.name cX9_find 2 (some .int)) 0 am_t_X9_find = true := am_okT_c am_q_X9_find_0 (rfl)
def am_m_X9_find : am_M := (yX9_find, cX9_find, 2, (some .int), 1, 974, 90, 973, 34, 1, am_t_X9_find)
theorem am_k_X9_find : am_okM am_mt am_m_X9_find := ⟨by decide +kernel, am_q_X9_find⟩
def am_t_X9_well_0 : List (Option am_I) := [some (.aload_n 0, 1, 0, 0, 0, 0, 0, 0, []), some (.iconst 0, 2, 0, 0, 0, 0, 0, 0, []), some (.putfield 41, 5, 0, 9, 10, 909, 0, 0, []), none, none, some (.iload_n 1, 6, 0, 1, 0, 0, 0, 0, []), some (.ireturn, 7, 0, 0, 0, 0, 0, 0, [])]
def am_t_X9_well : am_T := [am_t_X9_well_0]
theorem am_q_X9_well_0 : am_okQ (am_ok1 am_mt yX9_well.cls yX9_well.name cX9_well 2 (some .int)) 0 am_t_X9_well_0 = true := by decide +kernel
theorem am_q_X9_well : am_okT (am_ok1 am_mt yX9_well.cls yX9_well.name cX9_well 2 (some .int)) 0 am_t_X9_well = true := am_okT_c am_q_X9_well_0 (rfl)
def am_m_X9_well : am_M := (yX9_well, cX9_well, 2, (some .int), 1, 979, 90, 978, 35, 1, am_t_X9_well)
theorem am_k_X9_well : am_okM am_mt am_m_X9_well := ⟨by decide +kernel, am_q_X9_well⟩
def am_t_X9_isRow_0 : List (Option am_I) := [some (.iload_n 0, 1, 0, 0, 0, 0, 0, 0, []), some (.i2l, 2, 0, 0, 0, 0, 0, 0, []), some (.lconst 0, 3, 0, 0, 0, 0, 0, 0, []), some (.ldc2_w 46, 6, 0, 0, 0, 965, 0, 7, []), none, none, some (.invokestatic 48, 9, 0, 137, 3, 966, 0, 0, []), none, none, some (.ireturn, 10, 1, 0, 0, 0, 0, 0, [])]
def am_t_X9_isRow : am_T := [am_t_X9_isRow_0]
theorem am_q_X9_isRow_0 : am_okQ (am_ok1 am_mt yX9_isRow.cls yX9_isRow.name cX9_isRow 1 (some .boolean)) 0 am_t_X9_isRow_0 = true := by decide +kernel
theorem am_q_X9_isRow : am_okT (am_ok1 am_mt yX9_isRow.cls yX9_isRow.name cX9_isRow 1 (some .boolean)) 0 am_t_X9_isRow = true := am_okT_c am_q_X9_isRow_0 (rfl)
def am_m_X9_isRow : am_M := (yX9_isRow, cX9_isRow, 1, (some .boolean), 0, 964, 90, 963, 0, 1, am_t_X9_isRow)
theorem am_k_X9_isRow : am_okM am_mt am_m_X9_isRow := ⟨by decide +kernel, am_q_X9_isRow⟩
def am_t_X9_row_0 : List (Option am_I) := [some (.iload_n 1, 1, 0, 1, 0, 0, 0, 0, []), some (.invokestatic 52, 4, 0, 143, 1, 962, 0, 0, []), none, none, some (.ifCond .eq 21, 7, 25, 0, 0, 0, 0, 0, []), none, none, some (.iload_n 2, 8, 0, 2, 0, 0, 0, 0, []), some (.i2l, 9, 0, 0, 0, 0, 0, 0, []), some (.lconst 0, 10, 0, 0, 0, 0, 0, 0, []), some (.ldc2_w 56, 13, 0, 0, 0, 969, 0, 2, []), none, none, some (.invokestatic 48, 16, 0, 137, 3, 966, 0, 0, []), none, none]
def am_t_X9_row_1 : List (Option am_I) := [some (.ifCond .eq 9, 19, 25, 0, 0, 0, 0, 0, []), none, none, some (.iload_n 3, 20, 0, 3, 0, 0, 0, 0, []), some (.bipush 40, 22, 0, 0, 0, 0, 40, 0, []), none, some (.if_icmp .le 6, 25, 28, 0, 0, 0, 0, 0, []), none, none, some (.ldc 58, 27, 0, 0, 0, 970, (-1000001), 0, []), none, some (.ireturn, 28, 0, 0, 0, 0, 0, 0, []), some (.iload_n 3, 29, 0, 3, 0, 0, 0, 0, []), some (.ifCond .ge 9, 32, 38, 0, 0, 0, 0, 0, []), none, none]
def am_t_X9_row_2 : List (Option am_I) := [some (.aload_n 0, 33, 0, 0, 0, 0, 0, 0, []), some (.iconst 4, 34, 0, 0, 0, 0, 4, 0, []), some (.invokevirtual 59, 37, 9, 141, 1, 971, 0, 0, []), none, none, some (.ireturn, 38, 0, 0, 0, 0, 0, 0, []), some (.aload_n 0, 39, 0, 0, 0, 0, 0, 0, []), some (.getfield 17, 42, 0, 9, 4, 903, 0, 0, []), none, none, some (.iload_n 1, 43, 0, 1, 0, 0, 0, 0, []), some (.iload_n 2, 44, 0, 2, 0, 0, 0, 0, []), some (.iastore, 45, 0, 0, 0, 0, 0, 0, []), some (.aload_n 0, 46, 0, 0, 0, 0, 0, 0, []), some (.getfield 20, 49, 0, 9, 5, 904, 0, 0, []), none]
def am_t_X9_row_3 : List (Option am_I) := [none, some (.iload_n 1, 50, 0, 1, 0, 0, 0, 0, []), some (.iload_n 3, 51, 0, 3, 0, 0, 0, 0, []), some (.iastore, 52, 0, 0, 0, 0, 0, 0, []), some (.iconst 0, 53, 0, 0, 0, 0, 0, 0, []), some (.istore 4, 55, 0, 4, 0, 0, 0, 0, []), none, some (.iload 4, 57, 0, 4, 0, 0, 0, 0, []), none, some (.bipush 40, 59, 0, 0, 0, 0, 40, 0, []), none, some (.if_icmp .ge 22, 62, 81, 0, 0, 0, 0, 0, []), none, none, some (.aload_n 0, 63, 0, 0, 0, 0, 0, 0, []), some (.getfield 23, 66, 0, 9, 6, 905, 0, 0, [])]
def am_t_X9_row_4 : List (Option am_I) := [none, none, some (.bipush 40, 68, 0, 0, 0, 0, 40, 0, []), none, some (.iload_n 1, 69, 0, 1, 0, 0, 0, 0, []), some (.imul, 70, 0, 0, 0, 0, 0, 0, []), some (.iload 4, 72, 0, 4, 0, 0, 0, 0, []), none, some (.iadd, 73, 0, 0, 0, 0, 0, 0, []), some (.iconst 0, 74, 0, 0, 0, 0, 0, 0, []), some (.iastore, 75, 0, 0, 0, 0, 0, 0, []), some (.iinc 4 1, 78, 0, 4, 0, 0, 1, 0, []), none, none, some (.goto (-23), 81, 55, 0, 0, 0, 0, 0, []), none]
def am_t_X9_row_5 : List (Option am_I) := [none, some (.aload_n 0, 82, 0, 0, 0, 0, 0, 0, []), some (.iload_n 3, 83, 0, 3, 0, 0, 0, 0, []), some (.invokevirtual 63, 86, 9, 142, 1, 976, 0, 0, []), none, none, some (.ireturn, 87, 0, 0, 0, 0, 0, 0, [])]
def am_t_X9_row : am_T := [am_t_X9_row_0, am_t_X9_row_1, am_t_X9_row_2, am_t_X9_row_3, am_t_X9_row_4, am_t_X9_row_5]
theorem am_q_X9_row_0 : am_okQ (am_ok1 am_mt yX9_row.cls yX9_row.name cX9_row 5 (some .int)) 0 am_t_X9_row_0 = true := by decide +kernel
theorem am_q_X9_row_1 : am_okQ (am_ok1 am_mt yX9_row.cls yX9_row.name cX9_row 5 (some .int)) 1 am_t_X9_row_1 = true := by decide +kernel
theorem am_q_X9_row_2 : am_okQ (am_ok1 am_mt yX9_row.cls yX9_row.name cX9_row 5 (some .int)) 2 am_t_X9_row_2 = true := by decide +kernel
theorem am_q_X9_row_3 : am_okQ (am_ok1 am_mt yX9_row.cls yX9_row.name cX9_row 5 (some .int)) 3 am_t_X9_row_3 = true := by decide +kernel
theorem am_q_X9_row_4 : am_okQ (am_ok1 am_mt yX9_row.cls yX9_row.name cX9_row 5 (some .int)) 4 am_t_X9_row_4 = true := by decide +kernel
theorem am_q_X9_row_5 : am_okQ (am_ok1 am_mt yX9_row.cls yX9_row.name cX9_row 5 (some .int)) 5 am_t_X9_row_5 = true := by decide +kernel
theorem am_q_X9_row : am_okT (am_ok1 am_mt yX9_row.cls yX9_row.name cX9_row 5 (some .int)) 0 am_t_X9_row = true := am_okT_c am_q_X9_row_0 (am_okT_c am_q_X9_row_1 (am_okT_c am_q_X9_row_2 (am_okT_c am_q_X9_row_3 (am_okT_c am_q_X9_row_4 (am_okT_c am_q_X9_row_5 (rfl))))))
def am_m_X9_row : am_M := (yX9_row, cX9_row, 5, (some .int), 1, 961, 90, 959, 960, 3, am_t_X9_row)
theorem am_k_X9_row : am_okM am_mt am_m_X9_row := ⟨by decide +kernel, am_q_X9_row⟩
def am_t_X9_narrow_0 : List (Option am_I) := [some (.iload_n 1, 1, 0, 1, 0, 0, 0, 0, []), some (.ifCond .ne 8, 4, 9, 0, 0, 0, 0, 0, []), none, none, some (.iload_n 0, 5, 0, 0, 0, 0, 0, 0, []), some (.i2b, 6, 0, 0, 0, 0, 0, 0, []), some (.goto 14, 9, 20, 0, 0, 0, 0, 0, []), none, none, some (.iload_n 1, 10, 0, 1, 0, 0, 0, 0, []), some (.iconst 1, 11, 0, 0, 0, 0, 1, 0, []), some (.if_icmp .ne 8, 14, 19, 0, 0, 0, 0, 0, []), none, none, some (.iload_n 0, 15, 0, 0, 0, 0, 0, 0, []), some (.i2s, 16, 0, 0, 0, 0, 0, 0, [])]
def am_t_X9_narrow_1 : List (Option am_I) := [some (.goto 4, 19, 20, 0, 0, 0, 0, 0, []), none, none, some (.iload_n 0, 20, 0, 0, 0, 0, 0, 0, []), some (.ireturn, 21, 0, 0, 0, 0, 0, 0, [])]
def am_t_X9_narrow : am_T := [am_t_X9_narrow_0, am_t_X9_narrow_1]
theorem am_q_X9_narrow_0 : am_okQ (am_ok1 am_mt yX9_narrow.cls yX9_narrow.name cX9_narrow 2 (some .int)) 0 am_t_X9_narrow_0 = true := by decide +kernel
theorem am_q_X9_narrow_1 : am_okQ (am_ok1 am_mt yX9_narrow.cls yX9_narrow.name cX9_narrow 2 (some .int)) 1 am_t_X9_narrow_1 = true := by decide +kernel
theorem am_q_X9_narrow : am_okT (am_ok1 am_mt yX9_narrow.cls yX9_narrow.name cX9_narrow 2 (some .int)) 0 am_t_X9_narrow = true := am_okT_c am_q_X9_narrow_0 (am_okT_c am_q_X9_narrow_1 (rfl))
def am_m_X9_narrow : am_M := (yX9_narrow, cX9_narrow, 2, (some .int), 0, 986, 90, 985, 0, 2, am_t_X9_narrow)
theorem am_k_X9_narrow : am_okM am_mt am_m_X9_narrow := ⟨by decide +kernel, am_q_X9_narrow⟩
def am_t_X9_set_0 : List (Option am_I) := [some (.iload_n 1, 1, 0, 1, 0, 0, 0, 0, []), some (.invokestatic 52, 4, 0, 143, 1, 962, 0, 0, []), none, none, some (.ifCond .ne 6, 7, 10, 0, 0, 0, 0, 0, []), none, none, some (.ldc 58, 9, 0, 0, 0, 970, (-1000001), 0, []), none, some (.ireturn, 10, 0, 0, 0, 0, 0, 0, []), some (.aload_n 0, 11, 0, 0, 0, 0, 0, 0, []), some (.getfield 20, 14, 0, 9, 5, 904, 0, 0, []), none, none, some (.iload_n 1, 15, 0, 1, 0, 0, 0, 0, []), some (.iaload, 16, 0, 0, 0, 0, 0, 0, [])]
def am_t_X9_set_1 : List (Option am_I) := [some (.ifCond .ge 9, 19, 25, 0, 0, 0, 0, 0, []), none, none, some (.aload_n 0, 20, 0, 0, 0, 0, 0, 0, []), some (.iconst 1, 21, 0, 0, 0, 0, 1, 0, []), some (.invokevirtual 59, 24, 9, 141, 1, 971, 0, 0, []), none, none, some (.ireturn, 25, 0, 0, 0, 0, 0, 0, []), some (.iload_n 2, 26, 0, 2, 0, 0, 0, 0, []), some (.i2l, 27, 0, 0, 0, 0, 0, 0, []), some (.lconst 0, 28, 0, 0, 0, 0, 0, 0, []), some (.aload_n 0, 29, 0, 0, 0, 0, 0, 0, []), some (.getfield 20, 32, 0, 9, 5, 904, 0, 0, []), none, none]
def am_t_X9_set_2 : List (Option am_I) := [some (.iload_n 1, 33, 0, 1, 0, 0, 0, 0, []), some (.iaload, 34, 0, 0, 0, 0, 0, 0, []), some (.iconst 1, 35, 0, 0, 0, 0, 1, 0, []), some (.isub, 36, 0, 0, 0, 0, 0, 0, []), some (.i2l, 37, 0, 0, 0, 0, 0, 0, []), some (.invokestatic 48, 40, 0, 137, 3, 966, 0, 0, []), none, none, some (.ifCond .ne 9, 43, 49, 0, 0, 0, 0, 0, []), none, none, some (.aload_n 0, 44, 0, 0, 0, 0, 0, 0, []), some (.iconst 2, 45, 0, 0, 0, 0, 2, 0, []), some (.invokevirtual 59, 48, 9, 141, 1, 971, 0, 0, []), none, none]
def am_t_X9_set_3 : List (Option am_I) := [some (.ireturn, 49, 0, 0, 0, 0, 0, 0, []), some (.aload_n 0, 50, 0, 0, 0, 0, 0, 0, []), some (.getfield 23, 53, 0, 9, 6, 905, 0, 0, []), none, none, some (.bipush 40, 55, 0, 0, 0, 0, 40, 0, []), none, some (.iload_n 1, 56, 0, 1, 0, 0, 0, 0, []), some (.imul, 57, 0, 0, 0, 0, 0, 0, []), some (.iload_n 2, 58, 0, 2, 0, 0, 0, 0, []), some (.iadd, 59, 0, 0, 0, 0, 0, 0, []), some (.iload_n 3, 60, 0, 3, 0, 0, 0, 0, []), some (.aload_n 0, 61, 0, 0, 0, 0, 0, 0, []), some (.getfield 17, 64, 0, 9, 4, 903, 0, 0, []), none, none]
def am_t_X9_set_4 : List (Option am_I) := [some (.iload_n 1, 65, 0, 1, 0, 0, 0, 0, []), some (.iaload, 66, 0, 0, 0, 0, 0, 0, []), some (.invokestatic 66, 69, 0, 145, 2, 984, 0, 0, []), none, none, some (.iastore, 70, 0, 0, 0, 0, 0, 0, []), some (.aload_n 0, 71, 0, 0, 0, 0, 0, 0, []), some (.aload_n 0, 72, 0, 0, 0, 0, 0, 0, []), some (.getfield 23, 75, 0, 9, 6, 905, 0, 0, []), none, none, some (.bipush 40, 77, 0, 0, 0, 0, 40, 0, []), none, some (.iload_n 1, 78, 0, 1, 0, 0, 0, 0, []), some (.imul, 79, 0, 0, 0, 0, 0, 0, []), some (.iload_n 2, 80, 0, 2, 0, 0, 0, 0, [])]
def am_t_X9_set_5 : List (Option am_I) := [some (.iadd, 81, 0, 0, 0, 0, 0, 0, []), some (.iaload, 82, 0, 0, 0, 0, 0, 0, []), some (.invokevirtual 63, 85, 9, 142, 1, 976, 0, 0, []), none, none, some (.ireturn, 86, 0, 0, 0, 0, 0, 0, [])]
def am_t_X9_set : am_T := [am_t_X9_set_0, am_t_X9_set_1, am_t_X9_set_2, am_t_X9_set_3, am_t_X9_set_4, am_t_X9_set_5]
theorem am_q_X9_set_0 : am_okQ (am_ok1 am_mt yX9_set.cls yX9_set.name cX9_set 4 (some .int)) 0 am_t_X9_set_0 = true := by decide +kernel
theorem am_q_X9_set_1 : am_okQ (am_ok1 am_mt yX9_set.cls yX9_set.name cX9_set 4 (some .int)) 1 am_t_X9_set_1 = true := by decide +kernel
theorem am_q_X9_set_2 : am_okQ (am_ok1 am_mt yX9_set.cls yX9_set.name cX9_set 4 (some .int)) 2 am_t_X9_set_2 = true := by decide +kernel
theorem am_q_X9_set_3 : am_okQ (am_ok1 am_mt yX9_set.cls yX9_set.name cX9_set 4 (some .int)) 3 am_t_X9_set_3 = true := by decide +kernel
theorem am_q_X9_set_4 : am_okQ (am_ok1 am_mt yX9_set.cls yX9_set.name cX9_set 4 (some .int)) 4 am_t_X9_set_4 = true := by decide +kernel
theorem am_q_X9_set_5 : am_okQ (am_ok1 am_mt yX9_set.cls yX9_set.name cX9_set 4 (some .int)) 5 am_t_X9_set_5 = true := by decide +kernel
theorem am_q_X9_set : am_okT (am_ok1 am_mt yX9_set.cls yX9_set.name cX9_set 4 (some .int)) 0 am_t_X9_set = true := am_okT_c am_q_X9_set_0 (am_okT_c am_q_X9_set_1 (am_okT_c am_q_X9_set_2 (am_okT_c am_q_X9_set_3 (am_okT_c am_q_X9_set_4 (am_okT_c am_q_X9_set_5 (rfl))))))
def am_m_X9_set : am_M := (yX9_set, cX9_set, 4, (some .int), 1, 983, 90, 981, 982, 3, am_t_X9_set)
theorem am_k_X9_set : am_okM am_mt am_m_X9_set := ⟨by decide +kernel, am_q_X9_set⟩
def am_t_X9_isSpan_0 : List (Option am_I) := [some (.iload_n 2, 1, 0, 2, 0, 0, 0, 0, []), some (.ifCond .lt 27, 4, 28, 0, 0, 0, 0, 0, []), none, none, some (.iload_n 3, 5, 0, 3, 0, 0, 0, 0, []), some (.ifCond .lt 23, 8, 28, 0, 0, 0, 0, 0, []), none, none, some (.iload_n 2, 9, 0, 2, 0, 0, 0, 0, []), some (.i2l, 10, 0, 0, 0, 0, 0, 0, []), some (.iload_n 3, 11, 0, 3, 0, 0, 0, 0, []), some (.i2l, 12, 0, 0, 0, 0, 0, 0, []), some (.ladd, 13, 0, 0, 0, 0, 0, 0, []), some (.aload_n 0, 14, 0, 0, 0, 0, 0, 0, []), some (.getfield 20, 17, 0, 9, 5, 904, 0, 0, []), none]
def am_t_X9_isSpan_1 : List (Option am_I) := [none, some (.iload_n 1, 18, 0, 1, 0, 0, 0, 0, []), some (.iaload, 19, 0, 0, 0, 0, 0, 0, []), some (.i2l, 20, 0, 0, 0, 0, 0, 0, []), some (.lcmp, 21, 0, 0, 0, 0, 0, 0, []), some (.ifCond .gt 7, 24, 28, 0, 0, 0, 0, 0, []), none, none, some (.iconst 1, 25, 0, 0, 0, 0, 1, 0, []), some (.goto 4, 28, 29, 0, 0, 0, 0, 0, []), none, none, some (.iconst 0, 29, 0, 0, 0, 0, 0, 0, []), some (.ireturn, 30, 1, 0, 0, 0, 0, 0, [])]
def am_t_X9_isSpan : am_T := [am_t_X9_isSpan_0, am_t_X9_isSpan_1]
theorem am_q_X9_isSpan_0 : am_okQ (am_ok1 am_mt yX9_isSpan.cls yX9_isSpan.name cX9_isSpan 4 (some .boolean)) 0 am_t_X9_isSpan_0 = true := by decide +kernel
theorem am_q_X9_isSpan_1 : am_okQ (am_ok1 am_mt yX9_isSpan.cls yX9_isSpan.name cX9_isSpan 4 (some .boolean)) 1 am_t_X9_isSpan_1 = true := by decide +kernel
theorem am_q_X9_isSpan : am_okT (am_ok1 am_mt yX9_isSpan.cls yX9_isSpan.name cX9_isSpan 4 (some .boolean)) 0 am_t_X9_isSpan = true := am_okT_c am_q_X9_isSpan_0 (am_okT_c am_q_X9_isSpan_1 (rfl))
def am_m_X9_isSpan : am_M := (yX9_isSpan, cX9_isSpan, 4, (some .boolean), 1, 994, 90, 993, 36, 3, am_t_X9_isSpan)
theorem am_k_X9_isSpan : am_okM am_mt am_m_X9_isSpan := ⟨by decide +kernel, am_q_X9_isSpan⟩
def am_t_X9_copy_0 : List (Option am_I) := [some (.iload_n 1, 1, 0, 1, 0, 0, 0, 0, []), some (.invokestatic 52, 4, 0, 143, 1, 962, 0, 0, []), none, none, some (.ifCond .eq 10, 7, 14, 0, 0, 0, 0, 0, []), none, none, some (.iload_n 3, 8, 0, 3, 0, 0, 0, 0, []), some (.invokestatic 52, 11, 0, 143, 1, 962, 0, 0, []), none, none, some (.ifCond .ne 6, 14, 17, 0, 0, 0, 0, 0, []), none, none, some (.ldc 58, 16, 0, 0, 0, 970, (-1000001), 0, []), none]
def am_t_X9_copy_1 : List (Option am_I) := [some (.ireturn, 17, 0, 0, 0, 0, 0, 0, []), some (.aload_n 0, 18, 0, 0, 0, 0, 0, 0, []), some (.getfield 20, 21, 0, 9, 5, 904, 0, 0, []), none, none, some (.iload_n 1, 22, 0, 1, 0, 0, 0, 0, []), some (.iaload, 23, 0, 0, 0, 0, 0, 0, []), some (.ifCond .lt 12, 26, 35, 0, 0, 0, 0, 0, []), none, none, some (.aload_n 0, 27, 0, 0, 0, 0, 0, 0, []), some (.getfield 20, 30, 0, 9, 5, 904, 0, 0, []), none, none, some (.iload_n 3, 31, 0, 3, 0, 0, 0, 0, []), some (.iaload, 32, 0, 0, 0, 0, 0, 0, [])]
def am_t_X9_copy_2 : List (Option am_I) := [some (.ifCond .ge 9, 35, 41, 0, 0, 0, 0, 0, []), none, none, some (.aload_n 0, 36, 0, 0, 0, 0, 0, 0, []), some (.iconst 1, 37, 0, 0, 0, 0, 1, 0, []), some (.invokevirtual 59, 40, 9, 141, 1, 971, 0, 0, []), none, none, some (.ireturn, 41, 0, 0, 0, 0, 0, 0, []), some (.aload_n 0, 42, 0, 0, 0, 0, 0, 0, []), some (.getfield 17, 45, 0, 9, 4, 903, 0, 0, []), none, none, some (.iload_n 1, 46, 0, 1, 0, 0, 0, 0, []), some (.iaload, 47, 0, 0, 0, 0, 0, 0, []), some (.aload_n 0, 48, 0, 0, 0, 0, 0, 0, [])]
def am_t_X9_copy_3 : List (Option am_I) := [some (.getfield 17, 51, 0, 9, 4, 903, 0, 0, []), none, none, some (.iload_n 3, 52, 0, 3, 0, 0, 0, 0, []), some (.iaload, 53, 0, 0, 0, 0, 0, 0, []), some (.if_icmp .eq 9, 56, 62, 0, 0, 0, 0, 0, []), none, none, some (.aload_n 0, 57, 0, 0, 0, 0, 0, 0, []), some (.iconst 5, 58, 0, 0, 0, 0, 5, 0, []), some (.invokevirtual 59, 61, 9, 141, 1, 971, 0, 0, []), none, none, some (.ireturn, 62, 0, 0, 0, 0, 0, 0, []), some (.aload_n 0, 63, 0, 0, 0, 0, 0, 0, []), some (.iload_n 1, 64, 0, 1, 0, 0, 0, 0, [])]
def am_t_X9_copy_4 : List (Option am_I) := [some (.iload_n 2, 65, 0, 2, 0, 0, 0, 0, []), some (.iload 5, 67, 0, 5, 0, 0, 0, 0, []), none, some (.invokevirtual 70, 70, 9, 147, 3, 991, 0, 0, []), none, none, some (.ifCond .eq 15, 73, 85, 0, 0, 0, 0, 0, []), none, none, some (.aload_n 0, 74, 0, 0, 0, 0, 0, 0, []), some (.iload_n 3, 75, 0, 3, 0, 0, 0, 0, []), some (.iload 4, 77, 0, 4, 0, 0, 0, 0, []), none, some (.iload 5, 79, 0, 5, 0, 0, 0, 0, []), none, some (.invokevirtual 70, 82, 9, 147, 3, 991, 0, 0, [])]
def am_t_X9_copy_5 : List (Option am_I) := [none, none, some (.ifCond .ne 9, 85, 91, 0, 0, 0, 0, 0, []), none, none, some (.aload_n 0, 86, 0, 0, 0, 0, 0, 0, []), some (.iconst 2, 87, 0, 0, 0, 0, 2, 0, []), some (.invokevirtual 59, 90, 9, 141, 1, 971, 0, 0, []), none, none, some (.ireturn, 91, 0, 0, 0, 0, 0, 0, []), some (.iload_n 2, 92, 0, 2, 0, 0, 0, 0, []), some (.iload 4, 94, 0, 4, 0, 0, 0, 0, []), none, some (.if_icmp .ge 7, 97, 101, 0, 0, 0, 0, 0, []), none]
def am_t_X9_copy_6 : List (Option am_I) := [none, some (.iconst 1, 98, 0, 0, 0, 0, 1, 0, []), some (.goto 4, 101, 102, 0, 0, 0, 0, 0, []), none, none, some (.iconst 0, 102, 0, 0, 0, 0, 0, 0, []), some (.istore 6, 104, 0, 6, 0, 0, 0, 0, []), none, some (.iconst 0, 105, 0, 0, 0, 0, 0, 0, []), some (.istore 7, 107, 0, 7, 0, 0, 0, 0, []), none, some (.iload 7, 109, 0, 7, 0, 0, 0, 0, []), none, some (.iload 5, 111, 0, 5, 0, 0, 0, 0, []), none, some (.if_icmp .ge 57, 114, 168, 0, 0, 0, 0, 0, [])]
def am_t_X9_copy_7 : List (Option am_I) := [none, none, some (.iload 6, 116, 0, 6, 0, 0, 0, 0, []), none, some (.ifCond .eq 13, 119, 129, 0, 0, 0, 0, 0, []), none, none, some (.iload 5, 121, 0, 5, 0, 0, 0, 0, []), none, some (.iconst 1, 122, 0, 0, 0, 0, 1, 0, []), some (.isub, 123, 0, 0, 0, 0, 0, 0, []), some (.iload 7, 125, 0, 7, 0, 0, 0, 0, []), none, some (.isub, 126, 0, 0, 0, 0, 0, 0, []), some (.goto 5, 129, 131, 0, 0, 0, 0, 0, []), none]
def am_t_X9_copy_8 : List (Option am_I) := [none, some (.iload 7, 131, 0, 7, 0, 0, 0, 0, []), none, some (.istore 8, 133, 0, 8, 0, 0, 0, 0, []), none, some (.aload_n 0, 134, 0, 0, 0, 0, 0, 0, []), some (.getfield 23, 137, 0, 9, 6, 905, 0, 0, []), none, none, some (.bipush 40, 139, 0, 0, 0, 0, 40, 0, []), none, some (.iload_n 3, 140, 0, 3, 0, 0, 0, 0, []), some (.imul, 141, 0, 0, 0, 0, 0, 0, []), some (.iload 4, 143, 0, 4, 0, 0, 0, 0, []), none, some (.iadd, 144, 0, 0, 0, 0, 0, 0, [])]
def am_t_X9_copy_9 : List (Option am_I) := [some (.iload 8, 146, 0, 8, 0, 0, 0, 0, []), none, some (.iadd, 147, 0, 0, 0, 0, 0, 0, []), some (.aload_n 0, 148, 0, 0, 0, 0, 0, 0, []), some (.getfield 23, 151, 0, 9, 6, 905, 0, 0, []), none, none, some (.bipush 40, 153, 0, 0, 0, 0, 40, 0, []), none, some (.iload_n 1, 154, 0, 1, 0, 0, 0, 0, []), some (.imul, 155, 0, 0, 0, 0, 0, 0, []), some (.iload_n 2, 156, 0, 2, 0, 0, 0, 0, []), some (.iadd, 157, 0, 0, 0, 0, 0, 0, []), some (.iload 8, 159, 0, 8, 0, 0, 0, 0, []), none, some (.iadd, 160, 0, 0, 0, 0, 0, 0, [])]
def am_t_X9_copy_10 : List (Option am_I) := [some (.iaload, 161, 0, 0, 0, 0, 0, 0, []), some (.iastore, 162, 0, 0, 0, 0, 0, 0, []), some (.iinc 7 1, 165, 0, 7, 0, 0, 1, 0, []), none, none, some (.goto (-58), 168, 107, 0, 0, 0, 0, 0, []), none, none, some (.aload_n 0, 169, 0, 0, 0, 0, 0, 0, []), some (.iload 5, 171, 0, 5, 0, 0, 0, 0, []), none, some (.invokevirtual 63, 174, 9, 142, 1, 976, 0, 0, []), none, none, some (.ireturn, 175, 0, 0, 0, 0, 0, 0, [])]
def am_t_X9_copy : am_T := [am_t_X9_copy_0, am_t_X9_copy_1, am_t_X9_copy_2, am_t_X9_copy_3, am_t_X9_copy_4, am_t_X9_copy_5, am_t_X9_copy_6, am_t_X9_copy_7, am_t_X9_copy_8, am_t_X9_copy_9, am_t_X9_copy_10]
theorem am_q_X9_copy_0 : am_okQ (am_ok1 am_mt yX9_copy.cls yX9_copy.name cX9_copy 9 (some .int)) 0 am_t_X9_copy_0 = true := by decide +kernel
theorem am_q_X9_copy_1 : am_okQ (am_ok1 am_mt yX9_copy.cls yX9_copy.name cX9_copy 9 (some .int)) 1 am_t_X9_copy_1 = true := by decide +kernel
theorem am_q_X9_copy_2 : am_okQ (am_ok1 am_mt yX9_copy.cls yX9_copy.name cX9_copy 9 (some .int)) 2 am_t_X9_copy_2 = true := by decide +kernel
theorem am_q_X9_copy_3 : am_okQ (am_ok1 am_mt yX9_copy.cls yX9_copy.name cX9_copy 9 (some .int)) 3 am_t_X9_copy_3 = true := by decide +kernel
theorem am_q_X9_copy_4 : am_okQ (am_ok1 am_mt yX9_copy.cls yX9_copy.name cX9_copy 9 (some .int)) 4 am_t_X9_copy_4 = true := by decide +kernel
theorem am_q_X9_copy_5 : am_okQ (am_ok1 am_mt yX9_copy.cls yX9_copy.name cX9_copy 9 (some .int)) 5 am_t_X9_copy_5 = true := by decide +kernel
theorem am_q_X9_copy_6 : am_okQ (am_ok1 am_mt yX9_copy.cls yX9_copy.name cX9_copy 9 (some .int)) 6 am_t_X9_copy_6 = true := by decide +kernel
theorem am_q_X9_copy_7 : am_okQ (am_ok1 am_mt yX9_copy.cls yX9_copy.name cX9_copy 9 (some .int)) 7 am_t_X9_copy_7 = true := by decide +kernel
theorem am_q_X9_copy_8 : am_okQ (am_ok1 am_mt yX9_copy.cls yX9_copy.name cX9_copy 9 (some .int)) 8 am_t_X9_copy_8 = true := by decide +kernel
theorem am_q_X9_copy_9 : am_okQ (am_ok1 am_mt yX9_copy.cls yX9_copy.name cX9_copy 9 (some .int)) 9 am_t_X9_copy_9 = true := by decide +kernel
theorem am_q_X9_copy_10 : am_okQ (am_ok1 am_mt yX9_copy.cls yX9_copy.name cX9_copy 9 (some .int)) 10 am_t_X9_copy_10 = true := by decide +kernel
theorem am_q_X9_copy : am_okT (am_ok1 am_mt yX9_copy.cls yX9_copy.name cX9_copy 9 (some .int)) 0 am_t_X9_copy = true := am_okT_c am_q_X9_copy_0 (am_okT_c am_q_X9_copy_1 (am_okT_c am_q_X9_copy_2 (am_okT_c am_q_X9_copy_3 (am_okT_c am_q_X9_copy_4 (am_okT_c am_q_X9_copy_5 (am_okT_c am_q_X9_copy_6 (am_okT_c am_q_X9_copy_7 (am_okT_c am_q_X9_copy_8 (am_okT_c am_q_X9_copy_9 (am_okT_c am_q_X9_copy_10 (rfl)))))))))))
def am_m_X9_copy : am_M := (yX9_copy, cX9_copy, 9, (some .int), 1, 990, 90, 988, 989, 5, am_t_X9_copy)
theorem am_k_X9_copy : am_okM am_mt am_m_X9_copy := ⟨by decide +kernel, am_q_X9_copy⟩
def am_ms5 : List am_M := [am_m_X8_restore, am_m_X8_kind, am_m_X8_as, am_m_X8_ask, am_m_X8_trace, am_m_X8_count, am_m_X8_status, am_m_X8_found, am_m_X8_foundNothing, am_m_X8_imageOf, am_m_X8_isEither, am_m_X8_isPick, am_m_X8_isOfKind, am_m_X8_breathAfterLozenges, am_m_X8_lowest, am_m_X8_greatestShared, am_m_X9_init, am_m_X9_in, am_m_X9_has, am_m_X9_between, am_m_X9_bits, am_m_X9_find, am_m_X9_well, am_m_X9_isRow, am_m_X9_row, am_m_X9_narrow, am_m_X9_set, am_m_X9_isSpan, am_m_X9_copy]
theorem am_ms5_ok : ∀ M ∈ am_ms5, am_okM am_mt M := List.forall_mem_cons.mpr ⟨am_k_X8_restore, List.forall_mem_cons.mpr ⟨am_k_X8_kind, List.forall_mem_cons.mpr ⟨am_k_X8_as, List.forall_mem_cons.mpr ⟨am_k_X8_ask, List.forall_mem_cons.mpr ⟨am_k_X8_trace, List.forall_mem_cons.mpr ⟨am_k_X8_count, List.forall_mem_cons.mpr ⟨am_k_X8_status, List.forall_mem_cons.mpr ⟨am_k_X8_found, List.forall_mem_cons.mpr ⟨am_k_X8_foundNothing, List.forall_mem_cons.mpr ⟨am_k_X8_imageOf, List.forall_mem_cons.mpr ⟨am_k_X8_isEither, List.forall_mem_cons.mpr ⟨am_k_X8_isPick, List.forall_mem_cons.mpr ⟨am_k_X8_isOfKind, List.forall_mem_cons.mpr ⟨am_k_X8_breathAfterLozenges, List.forall_mem_cons.mpr ⟨am_k_X8_lowest, List.forall_mem_cons.mpr ⟨am_k_X8_greatestShared, List.forall_mem_cons.mpr ⟨am_k_X9_init, List.forall_mem_cons.mpr ⟨am_k_X9_in, List.forall_mem_cons.mpr ⟨am_k_X9_has, List.forall_mem_cons.mpr ⟨am_k_X9_between, List.forall_mem_cons.mpr ⟨am_k_X9_bits, List.forall_mem_cons.mpr ⟨am_k_X9_find, List.forall_mem_cons.mpr ⟨am_k_X9_well, List.forall_mem_cons.mpr ⟨am_k_X9_isRow, List.forall_mem_cons.mpr ⟨am_k_X9_row, List.forall_mem_cons.mpr ⟨am_k_X9_narrow, List.forall_mem_cons.mpr ⟨am_k_X9_set, List.forall_mem_cons.mpr ⟨am_k_X9_isSpan, List.forall_mem_cons.mpr ⟨am_k_X9_copy, fun _ h => absurd h List.not_mem_nil⟩⟩⟩⟩⟩⟩⟩⟩⟩⟩⟩⟩⟩⟩⟩⟩⟩⟩⟩⟩⟩⟩⟩⟩⟩⟩⟩⟩⟩
end
section
def am_t_X9_drop_0 : List (Option am_I) := [some (.iload_n 1, 1, 0, 1, 0, 0, 0, 0, []), some (.invokestatic 52, 4, 0, 143, 1, 962, 0, 0, []), none, none, some (.ifCond .ne 6, 7, 10, 0, 0, 0, 0, 0, []), none, none, some (.ldc 58, 9, 0, 0, 0, 970, (-1000001), 0, []), none, some (.ireturn, 10, 0, 0, 0, 0, 0, 0, []), some (.aload_n 0, 11, 0, 0, 0, 0, 0, 0, []), some (.getfield 20, 14, 0, 9, 5, 904, 0, 0, []), none, none, some (.iload_n 1, 15, 0, 1, 0, 0, 0, 0, []), some (.iaload, 16, 0, 0, 0, 0, 0, 0, [])]
def am_t_X9_drop_1 : List (Option am_I) := [some (.ifCond .ge 9, 19, 25, 0, 0, 0, 0, 0, []), none, none, some (.aload_n 0, 20, 0, 0, 0, 0, 0, 0, []), some (.iconst 1, 21, 0, 0, 0, 0, 1, 0, []), some (.invokevirtual 59, 24, 9, 141, 1, 971, 0, 0, []), none, none, some (.ireturn, 25, 0, 0, 0, 0, 0, 0, []), some (.aload_n 0, 26, 0, 0, 0, 0, 0, 0, []), some (.getfield 20, 29, 0, 9, 5, 904, 0, 0, []), none, none, some (.iload_n 1, 30, 0, 1, 0, 0, 0, 0, []), some (.iaload, 31, 0, 0, 0, 0, 0, 0, []), some (.istore_n 2, 32, 0, 2, 0, 0, 0, 0, [])]
def am_t_X9_drop_2 : List (Option am_I) := [some (.aload_n 0, 33, 0, 0, 0, 0, 0, 0, []), some (.getfield 20, 36, 0, 9, 5, 904, 0, 0, []), none, none, some (.iload_n 1, 37, 0, 1, 0, 0, 0, 0, []), some (.iconst (-1), 38, 0, 0, 0, 0, (-1), 0, []), some (.iastore, 39, 0, 0, 0, 0, 0, 0, []), some (.aload_n 0, 40, 0, 0, 0, 0, 0, 0, []), some (.iload_n 2, 41, 0, 2, 0, 0, 0, 0, []), some (.invokevirtual 63, 44, 9, 142, 1, 976, 0, 0, []), none, none, some (.ireturn, 45, 0, 0, 0, 0, 0, 0, [])]
def am_t_X9_drop : am_T := [am_t_X9_drop_0, am_t_X9_drop_1, am_t_X9_drop_2]
theorem am_q_X9_drop_0 : am_okQ (am_ok1 am_mt yX9_drop.cls yX9_drop.name cX9_drop 3 (some .int)) 0 am_t_X9_drop_0 = true := by decide +kernel
theorem am_q_X9_drop_1 : am_okQ (am_ok1 am_mt yX9_drop.cls yX9_drop.name cX9_drop 3 (some .int)) 1 am_t_X9_drop_1 = true := by decide +kernel
theorem am_q_X9_drop_2 : am_okQ (am_ok1 am_mt yX9_drop.cls yX9_drop.name cX9_drop 3 (some .int)) 2 am_t_X9_drop_2 = true := by decide +kernel
theorem am_q_X9_drop : am_okT (am_ok1 am_mt yX9_drop.cls yX9_drop.name cX9_drop 3 (some .int)) 0 am_t_X9_drop = true := am_okT_c am_q_X9_drop_0 (am_okT_c am_q_X9_drop_1 (am_okT_c am_q_X9_drop_2 (rfl)))
def am_m_X9_drop : am_M := (yX9_drop, cX9_drop, 3, (some .int), 1, 998, 90, 996, 997, 1, am_t_X9_drop)
theorem am_k_X9_drop : am_okM am_mt am_m_X9_drop := ⟨by decide +kernel, am_q_X9_drop⟩
def am_t_X9_feed_0 : List (Option am_I) := [some (.iload_n 1, 1, 0, 1, 0, 0, 0, 0, []), some (.i2l, 2, 0, 0, 0, 0, 0, 0, []), some (.lconst 0, 3, 0, 0, 0, 0, 0, 0, []), some (.ldc2_w 74, 6, 0, 0, 0, 1003, 0, 255, []), none, none, some (.invokestatic 48, 9, 0, 137, 3, 966, 0, 0, []), none, none, some (.ifCond .ne 6, 12, 15, 0, 0, 0, 0, 0, []), none, none, some (.ldc 58, 14, 0, 0, 0, 970, (-1000001), 0, []), none, some (.ireturn, 15, 0, 0, 0, 0, 0, 0, []), some (.aload_n 0, 16, 0, 0, 0, 0, 0, 0, [])]
def am_t_X9_feed_1 : List (Option am_I) := [some (.getfield 76, 19, 0, 9, 8, 907, 0, 0, []), none, none, some (.bipush 100, 21, 0, 0, 0, 0, 100, 0, []), none, some (.if_icmp .ne 6, 24, 27, 0, 0, 0, 0, 0, []), none, none, some (.ldc 79, 26, 0, 0, 0, 1004, (-1000003), 0, []), none, some (.ireturn, 27, 0, 0, 0, 0, 0, 0, []), some (.aload_n 0, 28, 0, 0, 0, 0, 0, 0, []), some (.getfield 26, 31, 0, 9, 7, 906, 0, 0, []), none, none, some (.aload_n 0, 32, 0, 0, 0, 0, 0, 0, [])]
def am_t_X9_feed_2 : List (Option am_I) := [some (.getfield 76, 35, 0, 9, 8, 907, 0, 0, []), none, none, some (.iload_n 1, 36, 0, 1, 0, 0, 0, 0, []), some (.iastore, 37, 0, 0, 0, 0, 0, 0, []), some (.aload_n 0, 38, 0, 0, 0, 0, 0, 0, []), some (.dup, 39, 0, 0, 0, 0, 0, 0, []), some (.getfield 76, 42, 0, 9, 8, 907, 0, 0, []), none, none, some (.iconst 1, 43, 0, 0, 0, 0, 1, 0, []), some (.iadd, 44, 0, 0, 0, 0, 0, 0, []), some (.putfield 76, 47, 0, 9, 8, 907, 0, 0, []), none, none, some (.aload_n 0, 48, 0, 0, 0, 0, 0, 0, [])]
def am_t_X9_feed_3 : List (Option am_I) := [some (.getfield 76, 51, 0, 9, 8, 907, 0, 0, []), none, none, some (.ireturn, 52, 0, 0, 0, 0, 0, 0, [])]
def am_t_X9_feed : am_T := [am_t_X9_feed_0, am_t_X9_feed_1, am_t_X9_feed_2, am_t_X9_feed_3]
theorem am_q_X9_feed_0 : am_okQ (am_ok1 am_mt yX9_feed.cls yX9_feed.name cX9_feed 2 (some .int)) 0 am_t_X9_feed_0 = true := by decide +kernel
theorem am_q_X9_feed_1 : am_okQ (am_ok1 am_mt yX9_feed.cls yX9_feed.name cX9_feed 2 (some .int)) 1 am_t_X9_feed_1 = true := by decide +kernel
theorem am_q_X9_feed_2 : am_okQ (am_ok1 am_mt yX9_feed.cls yX9_feed.name cX9_feed 2 (some .int)) 2 am_t_X9_feed_2 = true := by decide +kernel
theorem am_q_X9_feed_3 : am_okQ (am_ok1 am_mt yX9_feed.cls yX9_feed.name cX9_feed 2 (some .int)) 3 am_t_X9_feed_3 = true := by decide +kernel
theorem am_q_X9_feed : am_okT (am_ok1 am_mt yX9_feed.cls yX9_feed.name cX9_feed 2 (some .int)) 0 am_t_X9_feed = true := am_okT_c am_q_X9_feed_0 (am_okT_c am_q_X9_feed_1 (am_okT_c am_q_X9_feed_2 (am_okT_c am_q_X9_feed_3 (rfl))))
def am_m_X9_feed : am_M := (yX9_feed, cX9_feed, 2, (some .int), 1, 1002, 90, 1000, 1001, 1, am_t_X9_feed)
theorem am_k_X9_feed : am_okM am_mt am_m_X9_feed := ⟨by decide +kernel, am_q_X9_feed⟩
def am_t_X9_isLetter_0 : List (Option am_I) := [some (.aload_n 0, 1, 0, 0, 0, 0, 0, 0, []), some (.getfield 80, 4, 0, 9, 13, 912, 0, 0, []), none, none, some (.aload_n 0, 5, 0, 0, 0, 0, 0, 0, []), some (.getfield 76, 8, 0, 9, 8, 907, 0, 0, []), none, none, some (.if_icmp .ge 20, 11, 28, 0, 0, 0, 0, 0, []), none, none, some (.aload_n 0, 12, 0, 0, 0, 0, 0, 0, []), some (.getfield 26, 15, 0, 9, 7, 906, 0, 0, []), none, none, some (.aload_n 0, 16, 0, 0, 0, 0, 0, 0, [])]
def am_t_X9_isLetter_1 : List (Option am_I) := [some (.getfield 80, 19, 0, 9, 13, 912, 0, 0, []), none, none, some (.iaload, 20, 0, 0, 0, 0, 0, 0, []), some (.iload_n 1, 21, 0, 1, 0, 0, 0, 0, []), some (.if_icmp .ne 7, 24, 28, 0, 0, 0, 0, 0, []), none, none, some (.iconst 1, 25, 0, 0, 0, 0, 1, 0, []), some (.goto 4, 28, 29, 0, 0, 0, 0, 0, []), none, none, some (.iconst 0, 29, 0, 0, 0, 0, 0, 0, []), some (.ireturn, 30, 1, 0, 0, 0, 0, 0, [])]
def am_t_X9_isLetter : am_T := [am_t_X9_isLetter_0, am_t_X9_isLetter_1]
theorem am_q_X9_isLetter_0 : am_okQ (am_ok1 am_mt yX9_isLetter.cls yX9_isLetter.name cX9_isLetter 2 (some .boolean)) 0 am_t_X9_isLetter_0 = true := by decide +kernel
theorem am_q_X9_isLetter_1 : am_okQ (am_ok1 am_mt yX9_isLetter.cls yX9_isLetter.name cX9_isLetter 2 (some .boolean)) 1 am_t_X9_isLetter_1 = true := by decide +kernel
theorem am_q_X9_isLetter : am_okT (am_ok1 am_mt yX9_isLetter.cls yX9_isLetter.name cX9_isLetter 2 (some .boolean)) 0 am_t_X9_isLetter = true := am_okT_c am_q_X9_isLetter_0 (am_okT_c am_q_X9_isLetter_1 (rfl))
def am_m_X9_isLetter : am_M := (yX9_isLetter, cX9_isLetter, 2, (some .boolean), 1, 1024, 90, 1023, 40, 1, am_t_X9_isLetter)
theorem am_k_X9_isLetter : am_okM am_mt am_m_X9_isLetter := ⟨by decide +kernel, am_q_X9_isLetter⟩
def am_t_X9_isFigure_0 : List (Option am_I) := [some (.iload_n 1, 1, 0, 1, 0, 0, 0, 0, []), some (.aload_n 0, 2, 0, 0, 0, 0, 0, 0, []), some (.getfield 76, 5, 0, 9, 8, 907, 0, 0, []), none, none, some (.if_icmp .ge 26, 8, 31, 0, 0, 0, 0, 0, []), none, none, some (.aload_n 0, 9, 0, 0, 0, 0, 0, 0, []), some (.getfield 26, 12, 0, 9, 7, 906, 0, 0, []), none, none, some (.iload_n 1, 13, 0, 1, 0, 0, 0, 0, []), some (.iaload, 14, 0, 0, 0, 0, 0, 0, []), some (.i2l, 15, 0, 0, 0, 0, 0, 0, []), some (.ldc2_w 83, 18, 0, 0, 0, 1037, 0, 48, [])]
def am_t_X9_isFigure_1 : List (Option am_I) := [none, none, some (.ldc2_w 85, 21, 0, 0, 0, 1038, 0, 57, []), none, none, some (.invokestatic 48, 24, 0, 137, 3, 966, 0, 0, []), none, none, some (.ifCond .eq 7, 27, 31, 0, 0, 0, 0, 0, []), none, none, some (.iconst 1, 28, 0, 0, 0, 0, 1, 0, []), some (.goto 4, 31, 32, 0, 0, 0, 0, 0, []), none, none, some (.iconst 0, 32, 0, 0, 0, 0, 0, 0, [])]
def am_t_X9_isFigure_2 : List (Option am_I) := [some (.ireturn, 33, 1, 0, 0, 0, 0, 0, [])]
def am_t_X9_isFigure : am_T := [am_t_X9_isFigure_0, am_t_X9_isFigure_1, am_t_X9_isFigure_2]
theorem am_q_X9_isFigure_0 : am_okQ (am_ok1 am_mt yX9_isFigure.cls yX9_isFigure.name cX9_isFigure 2 (some .boolean)) 0 am_t_X9_isFigure_0 = true := by decide +kernel
theorem am_q_X9_isFigure_1 : am_okQ (am_ok1 am_mt yX9_isFigure.cls yX9_isFigure.name cX9_isFigure 2 (some .boolean)) 1 am_t_X9_isFigure_1 = true := by decide +kernel
theorem am_q_X9_isFigure_2 : am_okQ (am_ok1 am_mt yX9_isFigure.cls yX9_isFigure.name cX9_isFigure 2 (some .boolean)) 2 am_t_X9_isFigure_2 = true := by decide +kernel
theorem am_q_X9_isFigure : am_okT (am_ok1 am_mt yX9_isFigure.cls yX9_isFigure.name cX9_isFigure 2 (some .boolean)) 0 am_t_X9_isFigure = true := am_okT_c am_q_X9_isFigure_0 (am_okT_c am_q_X9_isFigure_1 (am_okT_c am_q_X9_isFigure_2 (rfl)))
def am_m_X9_isFigure : am_M := (yX9_isFigure, cX9_isFigure, 2, (some .boolean), 1, 1036, 90, 1035, 43, 1, am_t_X9_isFigure)
theorem am_k_X9_isFigure : am_okM am_mt am_m_X9_isFigure := ⟨by decide +kernel, am_q_X9_isFigure⟩
def am_t_X9_refuse_0 : List (Option am_I) := [some (.aload_n 0, 1, 0, 0, 0, 0, 0, 0, []), some (.iload_n 1, 2, 0, 1, 0, 0, 0, 0, []), some (.putfield 87, 5, 0, 9, 14, 913, 0, 0, []), none, none, some (.iconst 0, 6, 0, 0, 0, 0, 0, 0, []), some (.ireturn, 7, 1, 0, 0, 0, 0, 0, [])]
def am_t_X9_refuse : am_T := [am_t_X9_refuse_0]
theorem am_q_X9_refuse_0 : am_okQ (am_ok1 am_mt yX9_refuse.cls yX9_refuse.name cX9_refuse 2 (some .boolean)) 0 am_t_X9_refuse_0 = true := by decide +kernel
theorem am_q_X9_refuse : am_okT (am_ok1 am_mt yX9_refuse.cls yX9_refuse.name cX9_refuse 2 (some .boolean)) 0 am_t_X9_refuse = true := am_okT_c am_q_X9_refuse_0 (rfl)
def am_m_X9_refuse : am_M := (yX9_refuse, cX9_refuse, 2, (some .boolean), 1, 1028, 90, 1027, 41, 1, am_t_X9_refuse)
theorem am_k_X9_refuse : am_okM am_mt am_m_X9_refuse := ⟨by decide +kernel, am_q_X9_refuse⟩
def am_t_X9_sign_0 : List (Option am_I) := [some (.aload_n 0, 1, 0, 0, 0, 0, 0, 0, []), some (.iload_n 1, 2, 0, 1, 0, 0, 0, 0, []), some (.invokevirtual 90, 5, 9, 151, 1, 1021, 0, 0, []), none, none, some (.ifCond .ne 9, 8, 14, 0, 0, 0, 0, 0, []), none, none, some (.aload_n 0, 9, 0, 0, 0, 0, 0, 0, []), some (.iconst 1, 10, 0, 0, 0, 0, 1, 0, []), some (.invokevirtual 93, 13, 9, 153, 1, 1025, 0, 0, []), none, none, some (.ireturn, 14, 1, 0, 0, 0, 0, 0, []), some (.aload_n 0, 15, 0, 0, 0, 0, 0, 0, []), some (.dup, 16, 0, 0, 0, 0, 0, 0, [])]
def am_t_X9_sign_1 : List (Option am_I) := [some (.getfield 80, 19, 0, 9, 13, 912, 0, 0, []), none, none, some (.iconst 1, 20, 0, 0, 0, 0, 1, 0, []), some (.iadd, 21, 0, 0, 0, 0, 0, 0, []), some (.putfield 80, 24, 0, 9, 13, 912, 0, 0, []), none, none, some (.iconst 1, 25, 0, 0, 0, 0, 1, 0, []), some (.ireturn, 26, 1, 0, 0, 0, 0, 0, [])]
def am_t_X9_sign : am_T := [am_t_X9_sign_0, am_t_X9_sign_1]
theorem am_q_X9_sign_0 : am_okQ (am_ok1 am_mt yX9_sign.cls yX9_sign.name cX9_sign 2 (some .boolean)) 0 am_t_X9_sign_0 = true := by decide +kernel
theorem am_q_X9_sign_1 : am_okQ (am_ok1 am_mt yX9_sign.cls yX9_sign.name cX9_sign 2 (some .boolean)) 1 am_t_X9_sign_1 = true := by decide +kernel
theorem am_q_X9_sign : am_okT (am_ok1 am_mt yX9_sign.cls yX9_sign.name cX9_sign 2 (some .boolean)) 0 am_t_X9_sign = true := am_okT_c am_q_X9_sign_0 (am_okT_c am_q_X9_sign_1 (rfl))
def am_m_X9_sign : am_M := (yX9_sign, cX9_sign, 2, (some .boolean), 1, 1020, 90, 1019, 39, 1, am_t_X9_sign)
theorem am_k_X9_sign : am_okM am_mt am_m_X9_sign := ⟨by decide +kernel, am_q_X9_sign⟩
def am_t_X9_readsNumber_0 : List (Option am_I) := [some (.aload_n 0, 1, 0, 0, 0, 0, 0, 0, []), some (.aload_n 0, 2, 0, 0, 0, 0, 0, 0, []), some (.getfield 80, 5, 0, 9, 13, 912, 0, 0, []), none, none, some (.invokevirtual 96, 8, 9, 152, 1, 1033, 0, 0, []), none, none, some (.ifCond .eq 29, 11, 37, 0, 0, 0, 0, 0, []), none, none, some (.aload_n 0, 12, 0, 0, 0, 0, 0, 0, []), some (.aload_n 0, 13, 0, 0, 0, 0, 0, 0, []), some (.getfield 80, 16, 0, 9, 13, 912, 0, 0, []), none, none]
def am_t_X9_readsNumber_1 : List (Option am_I) := [some (.iconst 1, 17, 0, 0, 0, 0, 1, 0, []), some (.iadd, 18, 0, 0, 0, 0, 0, 0, []), some (.invokevirtual 96, 21, 9, 152, 1, 1033, 0, 0, []), none, none, some (.ifCond .eq 22, 24, 43, 0, 0, 0, 0, 0, []), none, none, some (.aload_n 0, 25, 0, 0, 0, 0, 0, 0, []), some (.aload_n 0, 26, 0, 0, 0, 0, 0, 0, []), some (.getfield 80, 29, 0, 9, 13, 912, 0, 0, []), none, none, some (.iconst 2, 30, 0, 0, 0, 0, 2, 0, []), some (.iadd, 31, 0, 0, 0, 0, 0, 0, []), some (.invokevirtual 96, 34, 9, 152, 1, 1033, 0, 0, [])]
def am_t_X9_readsNumber_2 : List (Option am_I) := [none, none, some (.ifCond .eq 9, 37, 43, 0, 0, 0, 0, 0, []), none, none, some (.aload_n 0, 38, 0, 0, 0, 0, 0, 0, []), some (.iconst 1, 39, 0, 0, 0, 0, 1, 0, []), some (.invokevirtual 93, 42, 9, 153, 1, 1025, 0, 0, []), none, none, some (.ireturn, 43, 1, 0, 0, 0, 0, 0, []), some (.aload_n 0, 44, 0, 0, 0, 0, 0, 0, []), some (.aload_n 0, 45, 0, 0, 0, 0, 0, 0, []), some (.getfield 26, 48, 0, 9, 7, 906, 0, 0, []), none, none]
def am_t_X9_readsNumber_3 : List (Option am_I) := [some (.aload_n 0, 49, 0, 0, 0, 0, 0, 0, []), some (.getfield 80, 52, 0, 9, 13, 912, 0, 0, []), none, none, some (.iaload, 53, 0, 0, 0, 0, 0, 0, []), some (.bipush 48, 55, 0, 0, 0, 0, 48, 0, []), none, some (.isub, 56, 0, 0, 0, 0, 0, 0, []), some (.putfield 99, 59, 0, 9, 15, 914, 0, 0, []), none, none, some (.aload_n 0, 60, 0, 0, 0, 0, 0, 0, []), some (.aload_n 0, 61, 0, 0, 0, 0, 0, 0, []), some (.getfield 80, 64, 0, 9, 13, 912, 0, 0, []), none, none]
def am_t_X9_readsNumber_4 : List (Option am_I) := [some (.iconst 1, 65, 0, 0, 0, 0, 1, 0, []), some (.iadd, 66, 0, 0, 0, 0, 0, 0, []), some (.invokevirtual 96, 69, 9, 152, 1, 1033, 0, 0, []), none, none, some (.ifCond .eq 7, 72, 76, 0, 0, 0, 0, 0, []), none, none, some (.iconst 2, 73, 0, 0, 0, 0, 2, 0, []), some (.goto 4, 76, 77, 0, 0, 0, 0, 0, []), none, none, some (.iconst 1, 77, 0, 0, 0, 0, 1, 0, []), some (.istore_n 3, 78, 0, 3, 0, 0, 0, 0, []), some (.aload_n 0, 79, 0, 0, 0, 0, 0, 0, []), some (.iload_n 3, 80, 0, 3, 0, 0, 0, 0, [])]
def am_t_X9_readsNumber_5 : List (Option am_I) := [some (.iconst 2, 81, 0, 0, 0, 0, 2, 0, []), some (.if_icmp .ne 28, 84, 109, 0, 0, 0, 0, 0, []), none, none, some (.bipush 10, 86, 0, 0, 0, 0, 10, 0, []), none, some (.aload_n 0, 87, 0, 0, 0, 0, 0, 0, []), some (.getfield 99, 90, 0, 9, 15, 914, 0, 0, []), none, none, some (.imul, 91, 0, 0, 0, 0, 0, 0, []), some (.aload_n 0, 92, 0, 0, 0, 0, 0, 0, []), some (.getfield 26, 95, 0, 9, 7, 906, 0, 0, []), none, none, some (.aload_n 0, 96, 0, 0, 0, 0, 0, 0, [])]
def am_t_X9_readsNumber_6 : List (Option am_I) := [some (.getfield 80, 99, 0, 9, 13, 912, 0, 0, []), none, none, some (.iconst 1, 100, 0, 0, 0, 0, 1, 0, []), some (.iadd, 101, 0, 0, 0, 0, 0, 0, []), some (.iaload, 102, 0, 0, 0, 0, 0, 0, []), some (.iadd, 103, 0, 0, 0, 0, 0, 0, []), some (.bipush 48, 105, 0, 0, 0, 0, 48, 0, []), none, some (.isub, 106, 0, 0, 0, 0, 0, 0, []), some (.goto 7, 109, 113, 0, 0, 0, 0, 0, []), none, none, some (.aload_n 0, 110, 0, 0, 0, 0, 0, 0, []), some (.getfield 99, 113, 0, 9, 15, 914, 0, 0, []), none]
def am_t_X9_readsNumber_7 : List (Option am_I) := [none, some (.putfield 99, 116, 0, 9, 15, 914, 0, 0, []), none, none, some (.aload_n 0, 117, 0, 0, 0, 0, 0, 0, []), some (.getfield 99, 120, 0, 9, 15, 914, 0, 0, []), none, none, some (.i2l, 121, 0, 0, 0, 0, 0, 0, []), some (.iload_n 1, 122, 0, 1, 0, 0, 0, 0, []), some (.i2l, 123, 0, 0, 0, 0, 0, 0, []), some (.iload_n 2, 124, 0, 2, 0, 0, 0, 0, []), some (.i2l, 125, 0, 0, 0, 0, 0, 0, []), some (.invokestatic 48, 128, 0, 137, 3, 966, 0, 0, []), none, none]
def am_t_X9_readsNumber_8 : List (Option am_I) := [some (.ifCond .ne 9, 131, 137, 0, 0, 0, 0, 0, []), none, none, some (.aload_n 0, 132, 0, 0, 0, 0, 0, 0, []), some (.iconst 2, 133, 0, 0, 0, 0, 2, 0, []), some (.invokevirtual 93, 136, 9, 153, 1, 1025, 0, 0, []), none, none, some (.ireturn, 137, 1, 0, 0, 0, 0, 0, []), some (.aload_n 0, 138, 0, 0, 0, 0, 0, 0, []), some (.dup, 139, 0, 0, 0, 0, 0, 0, []), some (.getfield 80, 142, 0, 9, 13, 912, 0, 0, []), none, none, some (.iload_n 3, 143, 0, 3, 0, 0, 0, 0, []), some (.iadd, 144, 0, 0, 0, 0, 0, 0, [])]
def am_t_X9_readsNumber_9 : List (Option am_I) := [some (.putfield 80, 147, 0, 9, 13, 912, 0, 0, []), none, none, some (.iconst 1, 148, 0, 0, 0, 0, 1, 0, []), some (.ireturn, 149, 1, 0, 0, 0, 0, 0, [])]
def am_t_X9_readsNumber : am_T := [am_t_X9_readsNumber_0, am_t_X9_readsNumber_1, am_t_X9_readsNumber_2, am_t_X9_readsNumber_3, am_t_X9_readsNumber_4, am_t_X9_readsNumber_5, am_t_X9_readsNumber_6, am_t_X9_readsNumber_7, am_t_X9_readsNumber_8, am_t_X9_readsNumber_9]
theorem am_q_X9_readsNumber_0 : am_okQ (am_ok1 am_mt yX9_readsNumber.cls yX9_readsNumber.name cX9_readsNumber 4 (some .boolean)) 0 am_t_X9_readsNumber_0 = true := by decide +kernel
theorem am_q_X9_readsNumber_1 : am_okQ (am_ok1 am_mt yX9_readsNumber.cls yX9_readsNumber.name cX9_readsNumber 4 (some .boolean)) 1 am_t_X9_readsNumber_1 = true := by decide +kernel
theorem am_q_X9_readsNumber_2 : am_okQ (am_ok1 am_mt yX9_readsNumber.cls yX9_readsNumber.name cX9_readsNumber 4 (some .boolean)) 2 am_t_X9_readsNumber_2 = true := by decide +kernel
theorem am_q_X9_readsNumber_3 : am_okQ (am_ok1 am_mt yX9_readsNumber.cls yX9_readsNumber.name cX9_readsNumber 4 (some .boolean)) 3 am_t_X9_readsNumber_3 = true := by decide +kernel
theorem am_q_X9_readsNumber_4 : am_okQ (am_ok1 am_mt yX9_readsNumber.cls yX9_readsNumber.name cX9_readsNumber 4 (some .boolean)) 4 am_t_X9_readsNumber_4 = true := by decide +kernel
theorem am_q_X9_readsNumber_5 : am_okQ (am_ok1 am_mt yX9_readsNumber.cls yX9_readsNumber.name cX9_readsNumber 4 (some .boolean)) 5 am_t_X9_readsNumber_5 = true := by decide +kernel
theorem am_q_X9_readsNumber_6 : am_okQ (am_ok1 am_mt yX9_readsNumber.cls yX9_readsNumber.name cX9_readsNumber 4 (some .boolean)) 6 am_t_X9_readsNumber_6 = true := by decide +kernel
theorem am_q_X9_readsNumber_7 : am_okQ (am_ok1 am_mt yX9_readsNumber.cls yX9_readsNumber.name cX9_readsNumber 4 (some .boolean)) 7 am_t_X9_readsNumber_7 = true := by decide +kernel
theorem am_q_X9_readsNumber_8 : am_okQ (am_ok1 am_mt yX9_readsNumber.cls yX9_readsNumber.name cX9_readsNumber 4 (some .boolean)) 8 am_t_X9_readsNumber_8 = true := by decide +kernel
theorem am_q_X9_readsNumber_9 : am_okQ (am_ok1 am_mt yX9_readsNumber.cls yX9_readsNumber.name cX9_readsNumber 4 (some .boolean)) 9 am_t_X9_readsNumber_9 = true := by decide +kernel
theorem am_q_X9_readsNumber : am_okT (am_ok1 am_mt yX9_readsNumber.cls yX9_readsNumber.name cX9_readsNumber 4 (some .boolean)) 0 am_t_X9_readsNumber = true := am_okT_c am_q_X9_readsNumber_0 (am_okT_c am_q_X9_readsNumber_1 (am_okT_c am_q_X9_readsNumber_2 (am_okT_c am_q_X9_readsNumber_3 (am_okT_c am_q_X9_readsNumber_4 (am_okT_c am_q_X9_readsNumber_5 (am_okT_c am_q_X9_readsNumber_6 (am_okT_c am_q_X9_readsNumber_7 (am_okT_c am_q_X9_readsNumber_8 (am_okT_c am_q_X9_readsNumber_9 (rfl))))))))))
def am_m_X9_readsNumber : am_M := (yX9_readsNumber, cX9_readsNumber, 4, (some .boolean), 1, 1032, 90, 1031, 42, 2, am_t_X9_readsNumber)
theorem am_k_X9_readsNumber : am_okM am_mt am_m_X9_readsNumber := ⟨by decide +kernel, am_q_X9_readsNumber⟩
def am_t_X9_readsLaw_0 : List (Option am_I) := [some (.aload_n 0, 1, 0, 0, 0, 0, 0, 0, []), some (.bipush 104, 3, 0, 0, 0, 0, 104, 0, []), none, some (.invokevirtual 102, 6, 9, 154, 1, 1017, 0, 0, []), none, none, some (.ifCond .eq 13, 9, 19, 0, 0, 0, 0, 0, []), none, none, some (.aload_n 0, 10, 0, 0, 0, 0, 0, 0, []), some (.iconst 1, 11, 0, 0, 0, 0, 1, 0, []), some (.bipush 9, 13, 0, 0, 0, 0, 9, 0, []), none, some (.invokevirtual 105, 16, 9, 155, 2, 1029, 0, 0, []), none, none]
def am_t_X9_readsLaw_1 : List (Option am_I) := [some (.ifCond .ne 5, 19, 21, 0, 0, 0, 0, 0, []), none, none, some (.iconst 0, 20, 0, 0, 0, 0, 0, 0, []), some (.ireturn, 21, 1, 0, 0, 0, 0, 0, []), some (.aload_n 0, 22, 0, 0, 0, 0, 0, 0, []), some (.getfield 7, 25, 0, 9, 0, 899, 0, 0, []), none, none, some (.sipush 569, 28, 0, 0, 0, 0, 569, 0, []), none, none, some (.aload_n 0, 29, 0, 0, 0, 0, 0, 0, []), some (.getfield 99, 32, 0, 9, 15, 914, 0, 0, []), none, none]
def am_t_X9_readsLaw_2 : List (Option am_I) := [some (.iastore, 33, 0, 0, 0, 0, 0, 0, []), some (.aload_n 0, 34, 0, 0, 0, 0, 0, 0, []), some (.bipush 59, 36, 0, 0, 0, 0, 59, 0, []), none, some (.invokevirtual 102, 39, 9, 154, 1, 1017, 0, 0, []), none, none, some (.ireturn, 40, 1, 0, 0, 0, 0, 0, [])]
def am_t_X9_readsLaw : am_T := [am_t_X9_readsLaw_0, am_t_X9_readsLaw_1, am_t_X9_readsLaw_2]
theorem am_q_X9_readsLaw_0 : am_okQ (am_ok1 am_mt yX9_readsLaw.cls yX9_readsLaw.name cX9_readsLaw 1 (some .boolean)) 0 am_t_X9_readsLaw_0 = true := by decide +kernel
theorem am_q_X9_readsLaw_1 : am_okQ (am_ok1 am_mt yX9_readsLaw.cls yX9_readsLaw.name cX9_readsLaw 1 (some .boolean)) 1 am_t_X9_readsLaw_1 = true := by decide +kernel
theorem am_q_X9_readsLaw_2 : am_okQ (am_ok1 am_mt yX9_readsLaw.cls yX9_readsLaw.name cX9_readsLaw 1 (some .boolean)) 2 am_t_X9_readsLaw_2 = true := by decide +kernel
theorem am_q_X9_readsLaw : am_okT (am_ok1 am_mt yX9_readsLaw.cls yX9_readsLaw.name cX9_readsLaw 1 (some .boolean)) 0 am_t_X9_readsLaw = true := am_okT_c am_q_X9_readsLaw_0 (am_okT_c am_q_X9_readsLaw_1 (am_okT_c am_q_X9_readsLaw_2 (rfl)))
def am_m_X9_readsLaw : am_M := (yX9_readsLaw, cX9_readsLaw, 1, (some .boolean), 1, 1016, 90, 1015, 38, 0, am_t_X9_readsLaw)
theorem am_k_X9_readsLaw : am_okM am_mt am_m_X9_readsLaw := ⟨by decide +kernel, am_q_X9_readsLaw⟩
def am_t_X9_readsMotion_0 : List (Option am_I) := [some (.aload_n 0, 1, 0, 0, 0, 0, 0, 0, []), some (.getfield 7, 4, 0, 9, 0, 899, 0, 0, []), none, none, some (.sipush 567, 7, 0, 0, 0, 0, 567, 0, []), none, none, some (.iaload, 8, 0, 0, 0, 0, 0, 0, []), some (.istore_n 1, 9, 0, 1, 0, 0, 0, 0, []), some (.iload_n 1, 10, 0, 1, 0, 0, 0, 0, []), some (.iconst 4, 11, 0, 0, 0, 0, 4, 0, []), some (.if_icmp .ne 9, 14, 20, 0, 0, 0, 0, 0, []), none, none, some (.aload_n 0, 15, 0, 0, 0, 0, 0, 0, []), some (.iconst 3, 16, 0, 0, 0, 0, 3, 0, [])]
def am_t_X9_readsMotion_1 : List (Option am_I) := [some (.invokevirtual 93, 19, 9, 153, 1, 1025, 0, 0, []), none, none, some (.ireturn, 20, 1, 0, 0, 0, 0, 0, []), some (.aload_n 0, 21, 0, 0, 0, 0, 0, 0, []), some (.dup, 22, 0, 0, 0, 0, 0, 0, []), some (.getfield 80, 25, 0, 9, 13, 912, 0, 0, []), none, none, some (.iconst 1, 26, 0, 0, 0, 0, 1, 0, []), some (.iadd, 27, 0, 0, 0, 0, 0, 0, []), some (.putfield 80, 30, 0, 9, 13, 912, 0, 0, []), none, none, some (.aload_n 0, 31, 0, 0, 0, 0, 0, 0, []), some (.iconst 0, 32, 0, 0, 0, 0, 0, 0, [])]
def am_t_X9_readsMotion_2 : List (Option am_I) := [some (.bipush 99, 34, 0, 0, 0, 0, 99, 0, []), none, some (.invokevirtual 105, 37, 9, 155, 2, 1029, 0, 0, []), none, none, some (.ifCond .ne 5, 40, 42, 0, 0, 0, 0, 0, []), none, none, some (.iconst 0, 41, 0, 0, 0, 0, 0, 0, []), some (.ireturn, 42, 1, 0, 0, 0, 0, 0, []), some (.aload_n 0, 43, 0, 0, 0, 0, 0, 0, []), some (.getfield 7, 46, 0, 9, 0, 899, 0, 0, []), none, none, some (.sipush 572, 49, 0, 0, 0, 0, 572, 0, []), none]
def am_t_X9_readsMotion_3 : List (Option am_I) := [none, some (.iload_n 1, 50, 0, 1, 0, 0, 0, 0, []), some (.iadd, 51, 0, 0, 0, 0, 0, 0, []), some (.aload_n 0, 52, 0, 0, 0, 0, 0, 0, []), some (.getfield 99, 55, 0, 9, 15, 914, 0, 0, []), none, none, some (.iastore, 56, 0, 0, 0, 0, 0, 0, []), some (.aload_n 0, 57, 0, 0, 0, 0, 0, 0, []), some (.getfield 7, 60, 0, 9, 0, 899, 0, 0, []), none, none, some (.sipush 567, 63, 0, 0, 0, 0, 567, 0, []), none, none, some (.dup2, 64, 0, 0, 0, 0, 0, 0, [])]
def am_t_X9_readsMotion_4 : List (Option am_I) := [some (.iaload, 65, 0, 0, 0, 0, 0, 0, []), some (.iconst 1, 66, 0, 0, 0, 0, 1, 0, []), some (.iadd, 67, 0, 0, 0, 0, 0, 0, []), some (.iastore, 68, 0, 0, 0, 0, 0, 0, []), some (.aload_n 0, 69, 0, 0, 0, 0, 0, 0, []), some (.bipush 59, 71, 0, 0, 0, 0, 59, 0, []), none, some (.invokevirtual 102, 74, 9, 154, 1, 1017, 0, 0, []), none, none, some (.ireturn, 75, 1, 0, 0, 0, 0, 0, [])]
def am_t_X9_readsMotion : am_T := [am_t_X9_readsMotion_0, am_t_X9_readsMotion_1, am_t_X9_readsMotion_2, am_t_X9_readsMotion_3, am_t_X9_readsMotion_4]
theorem am_q_X9_readsMotion_0 : am_okQ (am_ok1 am_mt yX9_readsMotion.cls yX9_readsMotion.name cX9_readsMotion 2 (some .boolean)) 0 am_t_X9_readsMotion_0 = true := by decide +kernel
theorem am_q_X9_readsMotion_1 : am_okQ (am_ok1 am_mt yX9_readsMotion.cls yX9_readsMotion.name cX9_readsMotion 2 (some .boolean)) 1 am_t_X9_readsMotion_1 = true := by decide +kernel
theorem am_q_X9_readsMotion_2 : am_okQ (am_ok1 am_mt yX9_readsMotion.cls yX9_readsMotion.name cX9_readsMotion 2 (some .boolean)) 2 am_t_X9_readsMotion_2 = true := by decide +kernel
theorem am_q_X9_readsMotion_3 : am_okQ (am_ok1 am_mt yX9_readsMotion.cls yX9_readsMotion.name cX9_readsMotion 2 (some .boolean)) 3 am_t_X9_readsMotion_3 = true := by decide +kernel
theorem am_q_X9_readsMotion_4 : am_okQ (am_ok1 am_mt yX9_readsMotion.cls yX9_readsMotion.name cX9_readsMotion 2 (some .boolean)) 4 am_t_X9_readsMotion_4 = true := by decide +kernel
theorem am_q_X9_readsMotion : am_okT (am_ok1 am_mt yX9_readsMotion.cls yX9_readsMotion.name cX9_readsMotion 2 (some .boolean)) 0 am_t_X9_readsMotion = true := am_okT_c am_q_X9_readsMotion_0 (am_okT_c am_q_X9_readsMotion_1 (am_okT_c am_q_X9_readsMotion_2 (am_okT_c am_q_X9_readsMotion_3 (am_okT_c am_q_X9_readsMotion_4 (rfl)))))
def am_m_X9_readsMotion : am_M := (yX9_readsMotion, cX9_readsMotion, 2, (some .boolean), 1, 1042, 90, 1041, 44, 0, am_t_X9_readsMotion)
theorem am_k_X9_readsMotion : am_okM am_mt am_m_X9_readsMotion := ⟨by decide +kernel, am_q_X9_readsMotion⟩
def am_t_X9_kindOfLetter_0 : List (Option am_I) := [some (.iload_n 0, 1, 0, 0, 0, 0, 0, 0, []), some (.bipush 112, 3, 0, 0, 0, 0, 112, 0, []), none, some (.if_icmp .ne 7, 6, 10, 0, 0, 0, 0, 0, []), none, none, some (.iconst 1, 7, 0, 0, 0, 0, 1, 0, []), some (.goto 44, 10, 51, 0, 0, 0, 0, 0, []), none, none, some (.iload_n 0, 11, 0, 0, 0, 0, 0, 0, []), some (.bipush 108, 13, 0, 0, 0, 0, 108, 0, []), none, some (.if_icmp .ne 7, 16, 20, 0, 0, 0, 0, 0, []), none, none]
def am_t_X9_kindOfLetter_1 : List (Option am_I) := [some (.iconst 2, 17, 0, 0, 0, 0, 2, 0, []), some (.goto 34, 20, 51, 0, 0, 0, 0, 0, []), none, none, some (.iload_n 0, 21, 0, 0, 0, 0, 0, 0, []), some (.bipush 100, 23, 0, 0, 0, 0, 100, 0, []), none, some (.if_icmp .ne 7, 26, 30, 0, 0, 0, 0, 0, []), none, none, some (.iconst 3, 27, 0, 0, 0, 0, 3, 0, []), some (.goto 24, 30, 51, 0, 0, 0, 0, 0, []), none, none, some (.iload_n 0, 31, 0, 0, 0, 0, 0, 0, []), some (.bipush 105, 33, 0, 0, 0, 0, 105, 0, [])]
def am_t_X9_kindOfLetter_2 : List (Option am_I) := [none, some (.if_icmp .ne 7, 36, 40, 0, 0, 0, 0, 0, []), none, none, some (.iconst 4, 37, 0, 0, 0, 0, 4, 0, []), some (.goto 14, 40, 51, 0, 0, 0, 0, 0, []), none, none, some (.iload_n 0, 41, 0, 0, 0, 0, 0, 0, []), some (.bipush 114, 43, 0, 0, 0, 0, 114, 0, []), none, some (.if_icmp .ne 7, 46, 50, 0, 0, 0, 0, 0, []), none, none, some (.iconst 5, 47, 0, 0, 0, 0, 5, 0, []), some (.goto 4, 50, 51, 0, 0, 0, 0, 0, [])]
def am_t_X9_kindOfLetter_3 : List (Option am_I) := [none, none, some (.iconst 0, 51, 0, 0, 0, 0, 0, 0, []), some (.ireturn, 52, 0, 0, 0, 0, 0, 0, [])]
def am_t_X9_kindOfLetter : am_T := [am_t_X9_kindOfLetter_0, am_t_X9_kindOfLetter_1, am_t_X9_kindOfLetter_2, am_t_X9_kindOfLetter_3]
theorem am_q_X9_kindOfLetter_0 : am_okQ (am_ok1 am_mt yX9_kindOfLetter.cls yX9_kindOfLetter.name cX9_kindOfLetter 1 (some .int)) 0 am_t_X9_kindOfLetter_0 = true := by decide +kernel
theorem am_q_X9_kindOfLetter_1 : am_okQ (am_ok1 am_mt yX9_kindOfLetter.cls yX9_kindOfLetter.name cX9_kindOfLetter 1 (some .int)) 1 am_t_X9_kindOfLetter_1 = true := by decide +kernel
theorem am_q_X9_kindOfLetter_2 : am_okQ (am_ok1 am_mt yX9_kindOfLetter.cls yX9_kindOfLetter.name cX9_kindOfLetter 1 (some .int)) 2 am_t_X9_kindOfLetter_2 = true := by decide +kernel
theorem am_q_X9_kindOfLetter_3 : am_okQ (am_ok1 am_mt yX9_kindOfLetter.cls yX9_kindOfLetter.name cX9_kindOfLetter 1 (some .int)) 3 am_t_X9_kindOfLetter_3 = true := by decide +kernel
theorem am_q_X9_kindOfLetter : am_okT (am_ok1 am_mt yX9_kindOfLetter.cls yX9_kindOfLetter.name cX9_kindOfLetter 1 (some .int)) 0 am_t_X9_kindOfLetter = true := am_okT_c am_q_X9_kindOfLetter_0 (am_okT_c am_q_X9_kindOfLetter_1 (am_okT_c am_q_X9_kindOfLetter_2 (am_okT_c am_q_X9_kindOfLetter_3 (rfl))))
def am_m_X9_kindOfLetter : am_M := (yX9_kindOfLetter, cX9_kindOfLetter, 1, (some .int), 0, 1049, 90, 1048, 0, 1, am_t_X9_kindOfLetter)
theorem am_k_X9_kindOfLetter : am_okM am_mt am_m_X9_kindOfLetter := ⟨by decide +kernel, am_q_X9_kindOfLetter⟩
def am_t_X9_readsMember_0 : List (Option am_I) := [some (.aload_n 0, 1, 0, 0, 0, 0, 0, 0, []), some (.getfield 7, 4, 0, 9, 0, 899, 0, 0, []), none, none, some (.sipush 568, 7, 0, 0, 0, 0, 568, 0, []), none, none, some (.iaload, 8, 0, 0, 0, 0, 0, 0, []), some (.istore_n 1, 9, 0, 1, 0, 0, 0, 0, []), some (.iload_n 1, 10, 0, 1, 0, 0, 0, 0, []), some (.iconst 4, 11, 0, 0, 0, 0, 4, 0, []), some (.if_icmp .ne 9, 14, 20, 0, 0, 0, 0, 0, []), none, none, some (.aload_n 0, 15, 0, 0, 0, 0, 0, 0, []), some (.iconst 3, 16, 0, 0, 0, 0, 3, 0, [])]
def am_t_X9_readsMember_1 : List (Option am_I) := [some (.invokevirtual 93, 19, 9, 153, 1, 1025, 0, 0, []), none, none, some (.ireturn, 20, 1, 0, 0, 0, 0, 0, []), some (.aload_n 0, 21, 0, 0, 0, 0, 0, 0, []), some (.getfield 7, 24, 0, 9, 0, 899, 0, 0, []), none, none, some (.sipush 576, 27, 0, 0, 0, 0, 576, 0, []), none, none, some (.iload_n 1, 28, 0, 1, 0, 0, 0, 0, []), some (.iadd, 29, 0, 0, 0, 0, 0, 0, []), some (.aload_n 0, 30, 0, 0, 0, 0, 0, 0, []), some (.getfield 26, 33, 0, 9, 7, 906, 0, 0, []), none]
def am_t_X9_readsMember_2 : List (Option am_I) := [none, some (.aload_n 0, 34, 0, 0, 0, 0, 0, 0, []), some (.getfield 80, 37, 0, 9, 13, 912, 0, 0, []), none, none, some (.iaload, 38, 0, 0, 0, 0, 0, 0, []), some (.invokestatic 109, 41, 0, 158, 1, 1047, 0, 0, []), none, none, some (.iastore, 42, 0, 0, 0, 0, 0, 0, []), some (.aload_n 0, 43, 0, 0, 0, 0, 0, 0, []), some (.dup, 44, 0, 0, 0, 0, 0, 0, []), some (.getfield 80, 47, 0, 9, 13, 912, 0, 0, []), none, none, some (.iconst 1, 48, 0, 0, 0, 0, 1, 0, [])]
def am_t_X9_readsMember_3 : List (Option am_I) := [some (.iadd, 49, 0, 0, 0, 0, 0, 0, []), some (.putfield 80, 52, 0, 9, 13, 912, 0, 0, []), none, none, some (.aload_n 0, 53, 0, 0, 0, 0, 0, 0, []), some (.iconst 0, 54, 0, 0, 0, 0, 0, 0, []), some (.bipush 20, 56, 0, 0, 0, 0, 20, 0, []), none, some (.invokevirtual 105, 59, 9, 155, 2, 1029, 0, 0, []), none, none, some (.ifCond .ne 5, 62, 64, 0, 0, 0, 0, 0, []), none, none, some (.iconst 0, 63, 0, 0, 0, 0, 0, 0, []), some (.ireturn, 64, 1, 0, 0, 0, 0, 0, [])]
def am_t_X9_readsMember_4 : List (Option am_I) := [some (.aload_n 0, 65, 0, 0, 0, 0, 0, 0, []), some (.getfield 7, 68, 0, 9, 0, 899, 0, 0, []), none, none, some (.sipush 580, 71, 0, 0, 0, 0, 580, 0, []), none, none, some (.iload_n 1, 72, 0, 1, 0, 0, 0, 0, []), some (.iadd, 73, 0, 0, 0, 0, 0, 0, []), some (.aload_n 0, 74, 0, 0, 0, 0, 0, 0, []), some (.getfield 99, 77, 0, 9, 15, 914, 0, 0, []), none, none, some (.iastore, 78, 0, 0, 0, 0, 0, 0, []), some (.aload_n 0, 79, 0, 0, 0, 0, 0, 0, []), some (.bipush 44, 81, 0, 0, 0, 0, 44, 0, [])]
def am_t_X9_readsMember_5 : List (Option am_I) := [none, some (.invokevirtual 102, 84, 9, 154, 1, 1017, 0, 0, []), none, none, some (.ifCond .eq 13, 87, 97, 0, 0, 0, 0, 0, []), none, none, some (.aload_n 0, 88, 0, 0, 0, 0, 0, 0, []), some (.iconst 0, 89, 0, 0, 0, 0, 0, 0, []), some (.bipush 9, 91, 0, 0, 0, 0, 9, 0, []), none, some (.invokevirtual 105, 94, 9, 155, 2, 1029, 0, 0, []), none, none, some (.ifCond .ne 5, 97, 99, 0, 0, 0, 0, 0, []), none]
def am_t_X9_readsMember_6 : List (Option am_I) := [none, some (.iconst 0, 98, 0, 0, 0, 0, 0, 0, []), some (.ireturn, 99, 1, 0, 0, 0, 0, 0, []), some (.aload_n 0, 100, 0, 0, 0, 0, 0, 0, []), some (.getfield 7, 103, 0, 9, 0, 899, 0, 0, []), none, none, some (.sipush 584, 106, 0, 0, 0, 0, 584, 0, []), none, none, some (.iload_n 1, 107, 0, 1, 0, 0, 0, 0, []), some (.iadd, 108, 0, 0, 0, 0, 0, 0, []), some (.aload_n 0, 109, 0, 0, 0, 0, 0, 0, []), some (.getfield 99, 112, 0, 9, 15, 914, 0, 0, []), none, none]
def am_t_X9_readsMember_7 : List (Option am_I) := [some (.iastore, 113, 0, 0, 0, 0, 0, 0, []), some (.aload_n 0, 114, 0, 0, 0, 0, 0, 0, []), some (.getfield 7, 117, 0, 9, 0, 899, 0, 0, []), none, none, some (.sipush 568, 120, 0, 0, 0, 0, 568, 0, []), none, none, some (.dup2, 121, 0, 0, 0, 0, 0, 0, []), some (.iaload, 122, 0, 0, 0, 0, 0, 0, []), some (.iconst 1, 123, 0, 0, 0, 0, 1, 0, []), some (.iadd, 124, 0, 0, 0, 0, 0, 0, []), some (.iastore, 125, 0, 0, 0, 0, 0, 0, []), some (.aload_n 0, 126, 0, 0, 0, 0, 0, 0, []), some (.bipush 59, 128, 0, 0, 0, 0, 59, 0, []), none]
def am_t_X9_readsMember_8 : List (Option am_I) := [some (.invokevirtual 102, 131, 9, 154, 1, 1017, 0, 0, []), none, none, some (.ireturn, 132, 1, 0, 0, 0, 0, 0, [])]
def am_t_X9_readsMember : am_T := [am_t_X9_readsMember_0, am_t_X9_readsMember_1, am_t_X9_readsMember_2, am_t_X9_readsMember_3, am_t_X9_readsMember_4, am_t_X9_readsMember_5, am_t_X9_readsMember_6, am_t_X9_readsMember_7, am_t_X9_readsMember_8]
theorem am_q_X9_readsMember_0 : am_okQ (am_ok1 am_mt yX9_readsMember.cls yX9_readsMember.name cX9_readsMember 2 (some .boolean)) 0 am_t_X9_readsMember_0 = true := by decide +kernel
theorem am_q_X9_readsMember_1 : am_okQ (am_ok1 am_mt yX9_readsMember.cls yX9_readsMember.name cX9_readsMember 2 (some .boolean)) 1 am_t_X9_readsMember_1 = true := by decide +kernel
theorem am_q_X9_readsMember_2 : am_okQ (am_ok1 am_mt yX9_readsMember.cls yX9_readsMember.name cX9_readsMember 2 (some .boolean)) 2 am_t_X9_readsMember_2 = true := by decide +kernel
theorem am_q_X9_readsMember_3 : am_okQ (am_ok1 am_mt yX9_readsMember.cls yX9_readsMember.name cX9_readsMember 2 (some .boolean)) 3 am_t_X9_readsMember_3 = true := by decide +kernel
theorem am_q_X9_readsMember_4 : am_okQ (am_ok1 am_mt yX9_readsMember.cls yX9_readsMember.name cX9_readsMember 2 (some .boolean)) 4 am_t_X9_readsMember_4 = true := by decide +kernel
theorem am_q_X9_readsMember_5 : am_okQ (am_ok1 am_mt yX9_readsMember.cls yX9_readsMember.name cX9_readsMember 2 (some .boolean)) 5 am_t_X9_readsMember_5 = true := by decide +kernel
theorem am_q_X9_readsMember_6 : am_okQ (am_ok1 am_mt yX9_readsMember.cls yX9_readsMember.name cX9_readsMember 2 (some .boolean)) 6 am_t_X9_readsMember_6 = true := by decide +kernel
theorem am_q_X9_readsMember_7 : am_okQ (am_ok1 am_mt yX9_readsMember.cls yX9_readsMember.name cX9_readsMember 2 (some .boolean)) 7 am_t_X9_readsMember_7 = true := by decide +kernel
theorem am_q_X9_readsMember_8 : am_okQ (am_ok1 am_mt yX9_readsMember.cls yX9_readsMember.name cX9_readsMember 2 (some .boolean)) 8 am_t_X9_readsMember_8 = true := by decide +kernel
theorem am_q_X9_readsMember : am_okT (am_ok1 am_mt yX9_readsMember.cls yX9_readsMember.name cX9_readsMember 2 (some .boolean)) 0 am_t_X9_readsMember = true := am_okT_c am_q_X9_readsMember_0 (am_okT_c am_q_X9_readsMember_1 (am_okT_c am_q_X9_readsMember_2 (am_okT_c am_q_X9_readsMember_3 (am_okT_c am_q_X9_readsMember_4 (am_okT_c am_q_X9_readsMember_5 (am_okT_c am_q_X9_readsMember_6 (am_okT_c am_q_X9_readsMember_7 (am_okT_c am_q_X9_readsMember_8 (rfl)))))))))
def am_m_X9_readsMember : am_M := (yX9_readsMember, cX9_readsMember, 2, (some .boolean), 1, 1053, 90, 1052, 46, 0, am_t_X9_readsMember)
theorem am_k_X9_readsMember : am_okM am_mt am_m_X9_readsMember := ⟨by decide +kernel, am_q_X9_readsMember⟩
def am_t_X9_isSort_0 : List (Option am_I) := [some (.aload_n 0, 1, 0, 0, 0, 0, 0, 0, []), some (.getfield 80, 4, 0, 9, 13, 912, 0, 0, []), none, none, some (.aload_n 0, 5, 0, 0, 0, 0, 0, 0, []), some (.getfield 76, 8, 0, 9, 8, 907, 0, 0, []), none, none, some (.if_icmp .ge 22, 11, 30, 0, 0, 0, 0, 0, []), none, none, some (.aload_n 0, 12, 0, 0, 0, 0, 0, 0, []), some (.getfield 26, 15, 0, 9, 7, 906, 0, 0, []), none, none, some (.aload_n 0, 16, 0, 0, 0, 0, 0, 0, [])]
def am_t_X9_isSort_1 : List (Option am_I) := [some (.getfield 80, 19, 0, 9, 13, 912, 0, 0, []), none, none, some (.iaload, 20, 0, 0, 0, 0, 0, 0, []), some (.invokestatic 109, 23, 0, 158, 1, 1047, 0, 0, []), none, none, some (.ifCond .le 7, 26, 30, 0, 0, 0, 0, 0, []), none, none, some (.iconst 1, 27, 0, 0, 0, 0, 1, 0, []), some (.goto 4, 30, 31, 0, 0, 0, 0, 0, []), none, none, some (.iconst 0, 31, 0, 0, 0, 0, 0, 0, []), some (.ireturn, 32, 1, 0, 0, 0, 0, 0, [])]
def am_t_X9_isSort : am_T := [am_t_X9_isSort_0, am_t_X9_isSort_1]
theorem am_q_X9_isSort_0 : am_okQ (am_ok1 am_mt yX9_isSort.cls yX9_isSort.name cX9_isSort 1 (some .boolean)) 0 am_t_X9_isSort_0 = true := by decide +kernel
theorem am_q_X9_isSort_1 : am_okQ (am_ok1 am_mt yX9_isSort.cls yX9_isSort.name cX9_isSort 1 (some .boolean)) 1 am_t_X9_isSort_1 = true := by decide +kernel
theorem am_q_X9_isSort : am_okT (am_ok1 am_mt yX9_isSort.cls yX9_isSort.name cX9_isSort 1 (some .boolean)) 0 am_t_X9_isSort = true := am_okT_c am_q_X9_isSort_0 (am_okT_c am_q_X9_isSort_1 (rfl))
def am_m_X9_isSort : am_M := (yX9_isSort, cX9_isSort, 1, (some .boolean), 1, 1046, 90, 1045, 45, 0, am_t_X9_isSort)
theorem am_k_X9_isSort : am_okM am_mt am_m_X9_isSort := ⟨by decide +kernel, am_q_X9_isSort⟩
def am_t_X9_reads_0 : List (Option am_I) := [some (.iconst 0, 1, 0, 0, 0, 0, 0, 0, []), some (.istore_n 1, 2, 0, 1, 0, 0, 0, 0, []), some (.iload_n 1, 3, 0, 1, 0, 0, 0, 0, []), some (.bipush 21, 5, 0, 0, 0, 0, 21, 0, []), none, some (.if_icmp .ge 20, 8, 25, 0, 0, 0, 0, 0, []), none, none, some (.aload_n 0, 9, 0, 0, 0, 0, 0, 0, []), some (.getfield 7, 12, 0, 9, 0, 899, 0, 0, []), none, none, some (.sipush 567, 15, 0, 0, 0, 0, 567, 0, []), none, none, some (.iload_n 1, 16, 0, 1, 0, 0, 0, 0, [])]
def am_t_X9_reads_1 : List (Option am_I) := [some (.iadd, 17, 0, 0, 0, 0, 0, 0, []), some (.iconst 0, 18, 0, 0, 0, 0, 0, 0, []), some (.iastore, 19, 0, 0, 0, 0, 0, 0, []), some (.iinc 1 1, 22, 0, 1, 0, 0, 1, 0, []), none, none, some (.goto (-20), 25, 2, 0, 0, 0, 0, 0, []), none, none, some (.aload_n 0, 26, 0, 0, 0, 0, 0, 0, []), some (.iconst 0, 27, 0, 0, 0, 0, 0, 0, []), some (.putfield 80, 30, 0, 9, 13, 912, 0, 0, []), none, none, some (.aload_n 0, 31, 0, 0, 0, 0, 0, 0, []), some (.invokevirtual 112, 34, 9, 156, 0, 1013, 0, 0, [])]
def am_t_X9_reads_2 : List (Option am_I) := [none, none, some (.ifCond .ne 5, 37, 39, 0, 0, 0, 0, 0, []), none, none, some (.iconst 0, 38, 0, 0, 0, 0, 0, 0, []), some (.ireturn, 39, 1, 0, 0, 0, 0, 0, []), some (.aload_n 0, 40, 0, 0, 0, 0, 0, 0, []), some (.bipush 109, 42, 0, 0, 0, 0, 109, 0, []), none, some (.invokevirtual 90, 45, 9, 151, 1, 1021, 0, 0, []), none, none, some (.ifCond .ne 9, 48, 54, 0, 0, 0, 0, 0, []), none, none]
def am_t_X9_reads_3 : List (Option am_I) := [some (.aload_n 0, 49, 0, 0, 0, 0, 0, 0, []), some (.iconst 1, 50, 0, 0, 0, 0, 1, 0, []), some (.invokevirtual 93, 53, 9, 153, 1, 1025, 0, 0, []), none, none, some (.ireturn, 54, 1, 0, 0, 0, 0, 0, []), some (.iconst 1, 55, 0, 0, 0, 0, 1, 0, []), some (.istore_n 1, 56, 0, 1, 0, 0, 0, 0, []), some (.iload_n 1, 57, 0, 1, 0, 0, 0, 0, []), some (.ifCond .eq 20, 60, 77, 0, 0, 0, 0, 0, []), none, none, some (.aload_n 0, 61, 0, 0, 0, 0, 0, 0, []), some (.bipush 109, 63, 0, 0, 0, 0, 109, 0, []), none, some (.invokevirtual 90, 66, 9, 151, 1, 1021, 0, 0, [])]
def am_t_X9_reads_4 : List (Option am_I) := [none, none, some (.ifCond .eq 11, 69, 77, 0, 0, 0, 0, 0, []), none, none, some (.aload_n 0, 70, 0, 0, 0, 0, 0, 0, []), some (.invokevirtual 116, 73, 9, 157, 0, 1039, 0, 0, []), none, none, some (.istore_n 1, 74, 0, 1, 0, 0, 0, 0, []), some (.goto (-18), 77, 56, 0, 0, 0, 0, 0, []), none, none, some (.iload_n 1, 78, 0, 1, 0, 0, 0, 0, []), some (.ifCond .eq 18, 81, 96, 0, 0, 0, 0, 0, []), none]
def am_t_X9_reads_5 : List (Option am_I) := [none, some (.aload_n 0, 82, 0, 0, 0, 0, 0, 0, []), some (.invokevirtual 119, 85, 9, 160, 0, 1043, 0, 0, []), none, none, some (.ifCond .eq 11, 88, 96, 0, 0, 0, 0, 0, []), none, none, some (.aload_n 0, 89, 0, 0, 0, 0, 0, 0, []), some (.invokevirtual 122, 92, 9, 159, 0, 1050, 0, 0, []), none, none, some (.istore_n 1, 93, 0, 1, 0, 0, 0, 0, []), some (.goto (-16), 96, 77, 0, 0, 0, 0, 0, []), none, none]
def am_t_X9_reads_6 : List (Option am_I) := [some (.iload_n 1, 97, 0, 1, 0, 0, 0, 0, []), some (.ifCond .eq 26, 100, 123, 0, 0, 0, 0, 0, []), none, none, some (.aload_n 0, 101, 0, 0, 0, 0, 0, 0, []), some (.getfield 80, 104, 0, 9, 13, 912, 0, 0, []), none, none, some (.aload_n 0, 105, 0, 0, 0, 0, 0, 0, []), some (.getfield 76, 108, 0, 9, 8, 907, 0, 0, []), none, none, some (.if_icmp .eq 11, 111, 119, 0, 0, 0, 0, 0, []), none, none, some (.aload_n 0, 112, 0, 0, 0, 0, 0, 0, [])]
def am_t_X9_reads_7 : List (Option am_I) := [some (.iconst 1, 113, 0, 0, 0, 0, 1, 0, []), some (.invokevirtual 93, 116, 9, 153, 1, 1025, 0, 0, []), none, none, some (.ifCond .eq 7, 119, 123, 0, 0, 0, 0, 0, []), none, none, some (.iconst 1, 120, 0, 0, 0, 0, 1, 0, []), some (.goto 4, 123, 124, 0, 0, 0, 0, 0, []), none, none, some (.iconst 0, 124, 0, 0, 0, 0, 0, 0, []), some (.ireturn, 125, 1, 0, 0, 0, 0, 0, [])]
def am_t_X9_reads : am_T := [am_t_X9_reads_0, am_t_X9_reads_1, am_t_X9_reads_2, am_t_X9_reads_3, am_t_X9_reads_4, am_t_X9_reads_5, am_t_X9_reads_6, am_t_X9_reads_7]
theorem am_q_X9_reads_0 : am_okQ (am_ok1 am_mt yX9_reads.cls yX9_reads.name cX9_reads 2 (some .boolean)) 0 am_t_X9_reads_0 = true := by decide +kernel
theorem am_q_X9_reads_1 : am_okQ (am_ok1 am_mt yX9_reads.cls yX9_reads.name cX9_reads 2 (some .boolean)) 1 am_t_X9_reads_1 = true := by decide +kernel
theorem am_q_X9_reads_2 : am_okQ (am_ok1 am_mt yX9_reads.cls yX9_reads.name cX9_reads 2 (some .boolean)) 2 am_t_X9_reads_2 = true := by decide +kernel
theorem am_q_X9_reads_3 : am_okQ (am_ok1 am_mt yX9_reads.cls yX9_reads.name cX9_reads 2 (some .boolean)) 3 am_t_X9_reads_3 = true := by decide +kernel
theorem am_q_X9_reads_4 : am_okQ (am_ok1 am_mt yX9_reads.cls yX9_reads.name cX9_reads 2 (some .boolean)) 4 am_t_X9_reads_4 = true := by decide +kernel
theorem am_q_X9_reads_5 : am_okQ (am_ok1 am_mt yX9_reads.cls yX9_reads.name cX9_reads 2 (some .boolean)) 5 am_t_X9_reads_5 = true := by decide +kernel
theorem am_q_X9_reads_6 : am_okQ (am_ok1 am_mt yX9_reads.cls yX9_reads.name cX9_reads 2 (some .boolean)) 6 am_t_X9_reads_6 = true := by decide +kernel
theorem am_q_X9_reads_7 : am_okQ (am_ok1 am_mt yX9_reads.cls yX9_reads.name cX9_reads 2 (some .boolean)) 7 am_t_X9_reads_7 = true := by decide +kernel
theorem am_q_X9_reads : am_okT (am_ok1 am_mt yX9_reads.cls yX9_reads.name cX9_reads 2 (some .boolean)) 0 am_t_X9_reads = true := am_okT_c am_q_X9_reads_0 (am_okT_c am_q_X9_reads_1 (am_okT_c am_q_X9_reads_2 (am_okT_c am_q_X9_reads_3 (am_okT_c am_q_X9_reads_4 (am_okT_c am_q_X9_reads_5 (am_okT_c am_q_X9_reads_6 (am_okT_c am_q_X9_reads_7 (rfl))))))))
def am_m_X9_reads : am_M := (yX9_reads, cX9_reads, 2, (some .boolean), 1, 1012, 90, 1011, 37, 0, am_t_X9_reads)
theorem am_k_X9_reads : am_okM am_mt am_m_X9_reads := ⟨by decide +kernel, am_q_X9_reads⟩
def am_t_X9_hill_0 : List (Option am_I) := [some (.aload_n 0, 1, 0, 0, 0, 0, 0, 0, []), some (.invokevirtual 125, 4, 9, 161, 0, 1009, 0, 0, []), none, none, some (.istore_n 1, 5, 0, 1, 0, 0, 0, 0, []), some (.aload_n 0, 6, 0, 0, 0, 0, 0, 0, []), some (.iconst 0, 7, 0, 0, 0, 0, 0, 0, []), some (.putfield 76, 10, 0, 9, 8, 907, 0, 0, []), none, none, some (.iload_n 1, 11, 0, 1, 0, 0, 0, 0, []), some (.ifCond .ne 19, 14, 30, 0, 0, 0, 0, 0, []), none, none, some (.aload_n 0, 15, 0, 0, 0, 0, 0, 0, []), some (.aload_n 0, 16, 0, 0, 0, 0, 0, 0, [])]
def am_t_X9_hill_1 : List (Option am_I) := [some (.getfield 87, 19, 0, 9, 14, 913, 0, 0, []), none, none, some (.putfield 128, 22, 0, 9, 9, 908, 0, 0, []), none, none, some (.ldc 131, 24, 0, 0, 0, 1054, (-1000100), 0, []), none, some (.aload_n 0, 25, 0, 0, 0, 0, 0, 0, []), some (.getfield 80, 28, 0, 9, 13, 912, 0, 0, []), none, none, some (.isub, 29, 0, 0, 0, 0, 0, 0, []), some (.ireturn, 30, 0, 0, 0, 0, 0, 0, []), some (.aload_n 0, 31, 0, 0, 0, 0, 0, 0, []), some (.sipush 567, 34, 0, 0, 0, 0, 567, 0, [])]
def am_t_X9_hill_2 : List (Option am_I) := [none, none, some (.iconst 0, 35, 0, 0, 0, 0, 0, 0, []), some (.invokevirtual 132, 38, 9, 164, 2, 1055, 0, 0, []), none, none, some (.aload_n 0, 39, 0, 0, 0, 0, 0, 0, []), some (.iconst 1, 40, 0, 0, 0, 0, 1, 0, []), some (.putfield 136, 43, 1, 9, 1, 900, 0, 0, []), none, none, some (.aload_n 0, 44, 0, 0, 0, 0, 0, 0, []), some (.iconst 0, 45, 0, 0, 0, 0, 0, 0, []), some (.putfield 140, 48, 0, 9, 2, 901, 0, 0, []), none, none]
def am_t_X9_hill_3 : List (Option am_I) := [some (.aload_n 0, 49, 0, 0, 0, 0, 0, 0, []), some (.getfield 7, 52, 0, 9, 0, 899, 0, 0, []), none, none, some (.iconst 1, 53, 0, 0, 0, 0, 1, 0, []), some (.iaload, 54, 0, 0, 0, 0, 0, 0, []), some (.ireturn, 55, 0, 0, 0, 0, 0, 0, [])]
def am_t_X9_hill : am_T := [am_t_X9_hill_0, am_t_X9_hill_1, am_t_X9_hill_2, am_t_X9_hill_3]
theorem am_q_X9_hill_0 : am_okQ (am_ok1 am_mt yX9_hill.cls yX9_hill.name cX9_hill 2 (some .int)) 0 am_t_X9_hill_0 = true := by decide +kernel
theorem am_q_X9_hill_1 : am_okQ (am_ok1 am_mt yX9_hill.cls yX9_hill.name cX9_hill 2 (some .int)) 1 am_t_X9_hill_1 = true := by decide +kernel
theorem am_q_X9_hill_2 : am_okQ (am_ok1 am_mt yX9_hill.cls yX9_hill.name cX9_hill 2 (some .int)) 2 am_t_X9_hill_2 = true := by decide +kernel
theorem am_q_X9_hill_3 : am_okQ (am_ok1 am_mt yX9_hill.cls yX9_hill.name cX9_hill 2 (some .int)) 3 am_t_X9_hill_3 = true := by decide +kernel
theorem am_q_X9_hill : am_okT (am_ok1 am_mt yX9_hill.cls yX9_hill.name cX9_hill 2 (some .int)) 0 am_t_X9_hill = true := am_okT_c am_q_X9_hill_0 (am_okT_c am_q_X9_hill_1 (am_okT_c am_q_X9_hill_2 (am_okT_c am_q_X9_hill_3 (rfl))))
def am_m_X9_hill : am_M := (yX9_hill, cX9_hill, 2, (some .int), 1, 1008, 90, 1006, 1007, 0, am_t_X9_hill)
theorem am_k_X9_hill : am_okM am_mt am_m_X9_hill := ⟨by decide +kernel, am_q_X9_hill⟩
def am_t_X9_fault_0 : List (Option am_I) := [some (.aload_n 0, 1, 0, 0, 0, 0, 0, 0, []), some (.getfield 128, 4, 0, 9, 9, 908, 0, 0, []), none, none, some (.ireturn, 5, 0, 0, 0, 0, 0, 0, [])]
def am_t_X9_fault : am_T := [am_t_X9_fault_0]
theorem am_q_X9_fault_0 : am_okQ (am_ok1 am_mt yX9_fault.cls yX9_fault.name cX9_fault 1 (some .int)) 0 am_t_X9_fault_0 = true := by decide +kernel
theorem am_q_X9_fault : am_okT (am_ok1 am_mt yX9_fault.cls yX9_fault.name cX9_fault 1 (some .int)) 0 am_t_X9_fault = true := am_okT_c am_q_X9_fault_0 (rfl)
def am_m_X9_fault : am_M := (yX9_fault, cX9_fault, 1, (some .int), 1, 1062, 90, 1060, 1061, 0, am_t_X9_fault)
theorem am_k_X9_fault : am_okM am_mt am_m_X9_fault := ⟨by decide +kernel, am_q_X9_fault⟩
def am_t_X9_copyTown_0 : List (Option am_I) := [some (.iconst 0, 1, 0, 0, 0, 0, 0, 0, []), some (.istore_n 3, 2, 0, 3, 0, 0, 0, 0, []), some (.iload_n 3, 3, 0, 3, 0, 0, 0, 0, []), some (.bipush 21, 5, 0, 0, 0, 0, 21, 0, []), none, some (.if_icmp .ge 25, 8, 30, 0, 0, 0, 0, 0, []), none, none, some (.aload_n 0, 9, 0, 0, 0, 0, 0, 0, []), some (.getfield 7, 12, 0, 9, 0, 899, 0, 0, []), none, none, some (.iload_n 2, 13, 0, 2, 0, 0, 0, 0, []), some (.iload_n 3, 14, 0, 3, 0, 0, 0, 0, []), some (.iadd, 15, 0, 0, 0, 0, 0, 0, []), some (.aload_n 0, 16, 0, 0, 0, 0, 0, 0, [])]
def am_t_X9_copyTown_1 : List (Option am_I) := [some (.getfield 7, 19, 0, 9, 0, 899, 0, 0, []), none, none, some (.iload_n 1, 20, 0, 1, 0, 0, 0, 0, []), some (.iload_n 3, 21, 0, 3, 0, 0, 0, 0, []), some (.iadd, 22, 0, 0, 0, 0, 0, 0, []), some (.iaload, 23, 0, 0, 0, 0, 0, 0, []), some (.iastore, 24, 0, 0, 0, 0, 0, 0, []), some (.iinc 3 1, 27, 0, 3, 0, 0, 1, 0, []), none, none, some (.goto (-25), 30, 2, 0, 0, 0, 0, 0, []), none, none, some (.return_, 31, 0, 0, 0, 0, 0, 0, [])]
def am_t_X9_copyTown : am_T := [am_t_X9_copyTown_0, am_t_X9_copyTown_1]
theorem am_q_X9_copyTown_0 : am_okQ (am_ok1 am_mt yX9_copyTown.cls yX9_copyTown.name cX9_copyTown 4 none) 0 am_t_X9_copyTown_0 = true := by decide +kernel
theorem am_q_X9_copyTown_1 : am_okQ (am_ok1 am_mt yX9_copyTown.cls yX9_copyTown.name cX9_copyTown 4 none) 1 am_t_X9_copyTown_1 = true := by decide +kernel
theorem am_q_X9_copyTown : am_okT (am_ok1 am_mt yX9_copyTown.cls yX9_copyTown.name cX9_copyTown 4 none) 0 am_t_X9_copyTown = true := am_okT_c am_q_X9_copyTown_0 (am_okT_c am_q_X9_copyTown_1 (rfl))
def am_m_X9_copyTown : am_M := (yX9_copyTown, cX9_copyTown, 4, none, 1, 1058, 90, 1057, 47, 2, am_t_X9_copyTown)
theorem am_k_X9_copyTown : am_okM am_mt am_m_X9_copyTown := ⟨by decide +kernel, am_q_X9_copyTown⟩
def am_t_X9_keepPast_0 : List (Option am_I) := [some (.iconst 0, 1, 0, 0, 0, 0, 0, 0, []), some (.istore_n 1, 2, 0, 1, 0, 0, 0, 0, []), some (.iload_n 1, 3, 0, 1, 0, 0, 0, 0, []), some (.sipush 483, 6, 0, 0, 0, 0, 483, 0, []), none, none, some (.if_icmp .ge 36, 9, 42, 0, 0, 0, 0, 0, []), none, none, some (.aload_n 0, 10, 0, 0, 0, 0, 0, 0, []), some (.getfield 140, 13, 0, 9, 2, 901, 0, 0, []), none, none, some (.bipush 24, 15, 0, 0, 0, 0, 24, 0, []), none, some (.if_icmp .ne 27, 18, 42, 0, 0, 0, 0, 0, [])]
def am_t_X9_keepPast_1 : List (Option am_I) := [none, none, some (.aload_n 0, 19, 0, 0, 0, 0, 0, 0, []), some (.getfield 7, 22, 0, 9, 0, 899, 0, 0, []), none, none, some (.bipush 21, 24, 0, 0, 0, 0, 21, 0, []), none, some (.iload_n 1, 25, 0, 1, 0, 0, 0, 0, []), some (.iadd, 26, 0, 0, 0, 0, 0, 0, []), some (.aload_n 0, 27, 0, 0, 0, 0, 0, 0, []), some (.getfield 7, 30, 0, 9, 0, 899, 0, 0, []), none, none, some (.bipush 42, 32, 0, 0, 0, 0, 42, 0, []), none]
def am_t_X9_keepPast_2 : List (Option am_I) := [some (.iload_n 1, 33, 0, 1, 0, 0, 0, 0, []), some (.iadd, 34, 0, 0, 0, 0, 0, 0, []), some (.iaload, 35, 0, 0, 0, 0, 0, 0, []), some (.iastore, 36, 0, 0, 0, 0, 0, 0, []), some (.iinc 1 1, 39, 0, 1, 0, 0, 1, 0, []), none, none, some (.goto (-37), 42, 2, 0, 0, 0, 0, 0, []), none, none, some (.aload_n 0, 43, 0, 0, 0, 0, 0, 0, []), some (.dup, 44, 0, 0, 0, 0, 0, 0, []), some (.getfield 140, 47, 0, 9, 2, 901, 0, 0, []), none, none, some (.aload_n 0, 48, 0, 0, 0, 0, 0, 0, [])]
def am_t_X9_keepPast_3 : List (Option am_I) := [some (.getfield 140, 51, 0, 9, 2, 901, 0, 0, []), none, none, some (.bipush 24, 53, 0, 0, 0, 0, 24, 0, []), none, some (.if_icmp .ne 7, 56, 60, 0, 0, 0, 0, 0, []), none, none, some (.iconst 1, 57, 0, 0, 0, 0, 1, 0, []), some (.goto 4, 60, 61, 0, 0, 0, 0, 0, []), none, none, some (.iconst 0, 61, 0, 0, 0, 0, 0, 0, []), some (.isub, 62, 0, 0, 0, 0, 0, 0, []), some (.putfield 140, 65, 0, 9, 2, 901, 0, 0, []), none]
def am_t_X9_keepPast_4 : List (Option am_I) := [none, some (.aload_n 0, 66, 0, 0, 0, 0, 0, 0, []), some (.iconst 0, 67, 0, 0, 0, 0, 0, 0, []), some (.bipush 21, 69, 0, 0, 0, 0, 21, 0, []), none, some (.bipush 21, 71, 0, 0, 0, 0, 21, 0, []), none, some (.aload_n 0, 72, 0, 0, 0, 0, 0, 0, []), some (.getfield 140, 75, 0, 9, 2, 901, 0, 0, []), none, none, some (.imul, 76, 0, 0, 0, 0, 0, 0, []), some (.iadd, 77, 0, 0, 0, 0, 0, 0, []), some (.invokevirtual 132, 80, 9, 164, 2, 1055, 0, 0, []), none, none]
def am_t_X9_keepPast_5 : List (Option am_I) := [some (.aload_n 0, 81, 0, 0, 0, 0, 0, 0, []), some (.dup, 82, 0, 0, 0, 0, 0, 0, []), some (.getfield 140, 85, 0, 9, 2, 901, 0, 0, []), none, none, some (.iconst 1, 86, 0, 0, 0, 0, 1, 0, []), some (.iadd, 87, 0, 0, 0, 0, 0, 0, []), some (.putfield 140, 90, 0, 9, 2, 901, 0, 0, []), none, none, some (.return_, 91, 0, 0, 0, 0, 0, 0, [])]
def am_t_X9_keepPast : am_T := [am_t_X9_keepPast_0, am_t_X9_keepPast_1, am_t_X9_keepPast_2, am_t_X9_keepPast_3, am_t_X9_keepPast_4, am_t_X9_keepPast_5]
theorem am_q_X9_keepPast_0 : am_okQ (am_ok1 am_mt yX9_keepPast.cls yX9_keepPast.name cX9_keepPast 2 none) 0 am_t_X9_keepPast_0 = true := by decide +kernel
theorem am_q_X9_keepPast_1 : am_okQ (am_ok1 am_mt yX9_keepPast.cls yX9_keepPast.name cX9_keepPast 2 none) 1 am_t_X9_keepPast_1 = true := by decide +kernel
theorem am_q_X9_keepPast_2 : am_okQ (am_ok1 am_mt yX9_keepPast.cls yX9_keepPast.name cX9_keepPast 2 none) 2 am_t_X9_keepPast_2 = true := by decide +kernel
theorem am_q_X9_keepPast_3 : am_okQ (am_ok1 am_mt yX9_keepPast.cls yX9_keepPast.name cX9_keepPast 2 none) 3 am_t_X9_keepPast_3 = true := by decide +kernel
theorem am_q_X9_keepPast_4 : am_okQ (am_ok1 am_mt yX9_keepPast.cls yX9_keepPast.name cX9_keepPast 2 none) 4 am_t_X9_keepPast_4 = true := by decide +kernel
theorem am_q_X9_keepPast_5 : am_okQ (am_ok1 am_mt yX9_keepPast.cls yX9_keepPast.name cX9_keepPast 2 none) 5 am_t_X9_keepPast_5 = true := by decide +kernel
theorem am_q_X9_keepPast : am_okT (am_ok1 am_mt yX9_keepPast.cls yX9_keepPast.name cX9_keepPast 2 none) 0 am_t_X9_keepPast = true := am_okT_c am_q_X9_keepPast_0 (am_okT_c am_q_X9_keepPast_1 (am_okT_c am_q_X9_keepPast_2 (am_okT_c am_q_X9_keepPast_3 (am_okT_c am_q_X9_keepPast_4 (am_okT_c am_q_X9_keepPast_5 (rfl))))))
def am_m_X9_keepPast : am_M := (yX9_keepPast, cX9_keepPast, 2, none, 1, 1090, 90, 1089, 51, 0, am_t_X9_keepPast)
theorem am_k_X9_keepPast : am_okM am_mt am_m_X9_keepPast := ⟨by decide +kernel, am_q_X9_keepPast⟩
def am_t_X9_undo_0 : List (Option am_I) := [some (.aload_n 0, 1, 0, 0, 0, 0, 0, 0, []), some (.getfield 140, 4, 0, 9, 2, 901, 0, 0, []), none, none, some (.ifCond .ne 6, 7, 10, 0, 0, 0, 0, 0, []), none, none, some (.ldc 143, 9, 0, 0, 0, 1067, (-1000002), 0, []), none, some (.ireturn, 10, 0, 0, 0, 0, 0, 0, []), some (.aload_n 0, 11, 0, 0, 0, 0, 0, 0, []), some (.dup, 12, 0, 0, 0, 0, 0, 0, []), some (.getfield 140, 15, 0, 9, 2, 901, 0, 0, []), none, none, some (.iconst 1, 16, 0, 0, 0, 0, 1, 0, [])]
def am_t_X9_undo_1 : List (Option am_I) := [some (.isub, 17, 0, 0, 0, 0, 0, 0, []), some (.putfield 140, 20, 0, 9, 2, 901, 0, 0, []), none, none, some (.aload_n 0, 21, 0, 0, 0, 0, 0, 0, []), some (.bipush 21, 23, 0, 0, 0, 0, 21, 0, []), none, some (.bipush 21, 25, 0, 0, 0, 0, 21, 0, []), none, some (.aload_n 0, 26, 0, 0, 0, 0, 0, 0, []), some (.getfield 140, 29, 0, 9, 2, 901, 0, 0, []), none, none, some (.imul, 30, 0, 0, 0, 0, 0, 0, []), some (.iadd, 31, 0, 0, 0, 0, 0, 0, []), some (.iconst 0, 32, 0, 0, 0, 0, 0, 0, [])]
def am_t_X9_undo_2 : List (Option am_I) := [some (.invokevirtual 132, 35, 9, 164, 2, 1055, 0, 0, []), none, none, some (.aload_n 0, 36, 0, 0, 0, 0, 0, 0, []), some (.getfield 140, 39, 0, 9, 2, 901, 0, 0, []), none, none, some (.ireturn, 40, 0, 0, 0, 0, 0, 0, [])]
def am_t_X9_undo : am_T := [am_t_X9_undo_0, am_t_X9_undo_1, am_t_X9_undo_2]
theorem am_q_X9_undo_0 : am_okQ (am_ok1 am_mt yX9_undo.cls yX9_undo.name cX9_undo 1 (some .int)) 0 am_t_X9_undo_0 = true := by decide +kernel
theorem am_q_X9_undo_1 : am_okQ (am_ok1 am_mt yX9_undo.cls yX9_undo.name cX9_undo 1 (some .int)) 1 am_t_X9_undo_1 = true := by decide +kernel
theorem am_q_X9_undo_2 : am_okQ (am_ok1 am_mt yX9_undo.cls yX9_undo.name cX9_undo 1 (some .int)) 2 am_t_X9_undo_2 = true := by decide +kernel
theorem am_q_X9_undo : am_okT (am_ok1 am_mt yX9_undo.cls yX9_undo.name cX9_undo 1 (some .int)) 0 am_t_X9_undo = true := am_okT_c am_q_X9_undo_0 (am_okT_c am_q_X9_undo_1 (am_okT_c am_q_X9_undo_2 (rfl)))
def am_m_X9_undo : am_M := (yX9_undo, cX9_undo, 1, (some .int), 1, 1066, 90, 1064, 1065, 0, am_t_X9_undo)
theorem am_k_X9_undo : am_okM am_mt am_m_X9_undo := ⟨by decide +kernel, am_q_X9_undo⟩
def am_t_X9_isMember_0 : List (Option am_I) := [some (.iload_n 1, 1, 0, 1, 0, 0, 0, 0, []), some (.i2l, 2, 0, 0, 0, 0, 0, 0, []), some (.lconst 0, 3, 0, 0, 0, 0, 0, 0, []), some (.aload_n 0, 4, 0, 0, 0, 0, 0, 0, []), some (.getfield 7, 7, 0, 9, 0, 899, 0, 0, []), none, none, some (.iconst 1, 8, 0, 0, 0, 0, 1, 0, []), some (.iaload, 9, 0, 0, 0, 0, 0, 0, []), some (.iconst 1, 10, 0, 0, 0, 0, 1, 0, []), some (.isub, 11, 0, 0, 0, 0, 0, 0, []), some (.i2l, 12, 0, 0, 0, 0, 0, 0, []), some (.invokestatic 48, 15, 0, 137, 3, 966, 0, 0, []), none, none, some (.ireturn, 16, 1, 0, 0, 0, 0, 0, [])]
def am_t_X9_isMember : am_T := [am_t_X9_isMember_0]
theorem am_q_X9_isMember_0 : am_okQ (am_ok1 am_mt yX9_isMember.cls yX9_isMember.name cX9_isMember 2 (some .boolean)) 0 am_t_X9_isMember_0 = true := by decide +kernel
theorem am_q_X9_isMember : am_okT (am_ok1 am_mt yX9_isMember.cls yX9_isMember.name cX9_isMember 2 (some .boolean)) 0 am_t_X9_isMember = true := am_okT_c am_q_X9_isMember_0 (rfl)
def am_m_X9_isMember : am_M := (yX9_isMember, cX9_isMember, 2, (some .boolean), 1, 1127, 90, 1126, 57, 1, am_t_X9_isMember)
theorem am_k_X9_isMember : am_okM am_mt am_m_X9_isMember := ⟨by decide +kernel, am_q_X9_isMember⟩
def am_t_X9_costBy_0 : List (Option am_I) := [some (.iload_n 0, 1, 0, 0, 0, 0, 0, 0, []), some (.iconst 3, 2, 0, 0, 0, 0, 3, 0, []), some (.if_icmp .le 7, 5, 9, 0, 0, 0, 0, 0, []), none, none, some (.iconst 0, 6, 0, 0, 0, 0, 0, 0, []), some (.goto 15, 9, 21, 0, 0, 0, 0, 0, []), none, none, some (.iload_n 0, 10, 0, 0, 0, 0, 0, 0, []), some (.iconst 2, 11, 0, 0, 0, 0, 2, 0, []), some (.if_icmp .ne 9, 14, 20, 0, 0, 0, 0, 0, []), none, none, some (.iload_n 1, 15, 0, 1, 0, 0, 0, 0, []), some (.iconst 1, 16, 0, 0, 0, 0, 1, 0, [])]
def am_t_X9_costBy_1 : List (Option am_I) := [some (.iadd, 17, 0, 0, 0, 0, 0, 0, []), some (.goto 4, 20, 21, 0, 0, 0, 0, 0, []), none, none, some (.iload_n 1, 21, 0, 1, 0, 0, 0, 0, []), some (.ireturn, 22, 0, 0, 0, 0, 0, 0, [])]
def am_t_X9_costBy : am_T := [am_t_X9_costBy_0, am_t_X9_costBy_1]
theorem am_q_X9_costBy_0 : am_okQ (am_ok1 am_mt yX9_costBy.cls yX9_costBy.name cX9_costBy 2 (some .int)) 0 am_t_X9_costBy_0 = true := by decide +kernel
theorem am_q_X9_costBy_1 : am_okQ (am_ok1 am_mt yX9_costBy.cls yX9_costBy.name cX9_costBy 2 (some .int)) 1 am_t_X9_costBy_1 = true := by decide +kernel
theorem am_q_X9_costBy : am_okT (am_ok1 am_mt yX9_costBy.cls yX9_costBy.name cX9_costBy 2 (some .int)) 0 am_t_X9_costBy = true := am_okT_c am_q_X9_costBy_0 (am_okT_c am_q_X9_costBy_1 (rfl))
def am_m_X9_costBy : am_M := (yX9_costBy, cX9_costBy, 2, (some .int), 0, 1086, 90, 1085, 0, 2, am_t_X9_costBy)
theorem am_k_X9_costBy : am_okM am_mt am_m_X9_costBy := ⟨by decide +kernel, am_q_X9_costBy⟩
def am_ms6 : List am_M := [am_m_X9_drop, am_m_X9_feed, am_m_X9_isLetter, am_m_X9_isFigure, am_m_X9_refuse, am_m_X9_sign, am_m_X9_readsNumber, am_m_X9_readsLaw, am_m_X9_readsMotion, am_m_X9_kindOfLetter, am_m_X9_readsMember, am_m_X9_isSort, am_m_X9_reads, am_m_X9_hill, am_m_X9_fault, am_m_X9_copyTown, am_m_X9_keepPast, am_m_X9_undo, am_m_X9_isMember, am_m_X9_costBy]
theorem am_ms6_ok : ∀ M ∈ am_ms6, am_okM am_mt M := List.forall_mem_cons.mpr ⟨am_k_X9_drop, List.forall_mem_cons.mpr ⟨am_k_X9_feed, List.forall_mem_cons.mpr ⟨am_k_X9_isLetter, List.forall_mem_cons.mpr ⟨am_k_X9_isFigure, List.forall_mem_cons.mpr ⟨am_k_X9_refuse, List.forall_mem_cons.mpr ⟨am_k_X9_sign, List.forall_mem_cons.mpr ⟨am_k_X9_readsNumber, List.forall_mem_cons.mpr ⟨am_k_X9_readsLaw, List.forall_mem_cons.mpr ⟨am_k_X9_readsMotion, List.forall_mem_cons.mpr ⟨am_k_X9_kindOfLetter, List.forall_mem_cons.mpr ⟨am_k_X9_readsMember, List.forall_mem_cons.mpr ⟨am_k_X9_isSort, List.forall_mem_cons.mpr ⟨am_k_X9_reads, List.forall_mem_cons.mpr ⟨am_k_X9_hill, List.forall_mem_cons.mpr ⟨am_k_X9_fault, List.forall_mem_cons.mpr ⟨am_k_X9_copyTown, List.forall_mem_cons.mpr ⟨am_k_X9_keepPast, List.forall_mem_cons.mpr ⟨am_k_X9_undo, List.forall_mem_cons.mpr ⟨am_k_X9_isMember, List.forall_mem_cons.mpr ⟨am_k_X9_costBy, fun _ h => absurd h List.not_mem_nil⟩⟩⟩⟩⟩⟩⟩⟩⟩⟩⟩⟩⟩⟩⟩⟩⟩⟩⟩⟩
end
section
def am_t_X9_costOf_0 : List (Option am_I) := [some (.aload_n 0, 1, 0, 0, 0, 0, 0, 0, []), some (.getfield 7, 4, 0, 9, 0, 899, 0, 0, []), none, none, some (.iload_n 1, 5, 0, 1, 0, 0, 0, 0, []), some (.bipush 9, 7, 0, 0, 0, 0, 9, 0, []), none, some (.iadd, 8, 0, 0, 0, 0, 0, 0, []), some (.iload_n 2, 9, 0, 2, 0, 0, 0, 0, []), some (.iadd, 10, 0, 0, 0, 0, 0, 0, []), some (.iaload, 11, 0, 0, 0, 0, 0, 0, []), some (.aload_n 0, 12, 0, 0, 0, 0, 0, 0, []), some (.getfield 7, 15, 0, 9, 0, 899, 0, 0, []), none, none, some (.iload_n 1, 16, 0, 1, 0, 0, 0, 0, [])]
def am_t_X9_costOf_1 : List (Option am_I) := [some (.iconst 2, 17, 0, 0, 0, 0, 2, 0, []), some (.iadd, 18, 0, 0, 0, 0, 0, 0, []), some (.iaload, 19, 0, 0, 0, 0, 0, 0, []), some (.invokestatic 144, 22, 0, 168, 2, 1084, 0, 0, []), none, none, some (.ireturn, 23, 0, 0, 0, 0, 0, 0, [])]
def am_t_X9_costOf : am_T := [am_t_X9_costOf_0, am_t_X9_costOf_1]
theorem am_q_X9_costOf_0 : am_okQ (am_ok1 am_mt yX9_costOf.cls yX9_costOf.name cX9_costOf 3 (some .int)) 0 am_t_X9_costOf_0 = true := by decide +kernel
theorem am_q_X9_costOf_1 : am_okQ (am_ok1 am_mt yX9_costOf.cls yX9_costOf.name cX9_costOf 3 (some .int)) 1 am_t_X9_costOf_1 = true := by decide +kernel
theorem am_q_X9_costOf : am_okT (am_ok1 am_mt yX9_costOf.cls yX9_costOf.name cX9_costOf 3 (some .int)) 0 am_t_X9_costOf = true := am_okT_c am_q_X9_costOf_0 (am_okT_c am_q_X9_costOf_1 (rfl))
def am_m_X9_costOf : am_M := (yX9_costOf, cX9_costOf, 3, (some .int), 1, 1083, 90, 1082, 50, 2, am_t_X9_costOf)
theorem am_k_X9_costOf : am_okM am_mt am_m_X9_costOf := ⟨by decide +kernel, am_q_X9_costOf⟩
def am_t_X9_canSpeak_0 : List (Option am_I) := [some (.iconst 0, 1, 0, 0, 0, 0, 0, 0, []), some (.istore_n 2, 2, 0, 2, 0, 0, 0, 0, []), some (.iconst 0, 3, 0, 0, 0, 0, 0, 0, []), some (.istore_n 3, 4, 0, 3, 0, 0, 0, 0, []), some (.iload_n 3, 5, 0, 3, 0, 0, 0, 0, []), some (.aload_n 0, 6, 0, 0, 0, 0, 0, 0, []), some (.getfield 7, 9, 0, 9, 0, 899, 0, 0, []), none, none, some (.iload_n 1, 10, 0, 1, 0, 0, 0, 0, []), some (.iconst 1, 11, 0, 0, 0, 0, 1, 0, []), some (.iadd, 12, 0, 0, 0, 0, 0, 0, []), some (.iaload, 13, 0, 0, 0, 0, 0, 0, []), some (.if_icmp .ge 39, 16, 52, 0, 0, 0, 0, 0, []), none, none]
def am_t_X9_canSpeak_1 : List (Option am_I) := [some (.iload_n 2, 17, 0, 2, 0, 0, 0, 0, []), some (.aload_n 0, 18, 0, 0, 0, 0, 0, 0, []), some (.getfield 7, 21, 0, 9, 0, 899, 0, 0, []), none, none, some (.iload_n 1, 22, 0, 1, 0, 0, 0, 0, []), some (.bipush 13, 24, 0, 0, 0, 0, 13, 0, []), none, some (.iadd, 25, 0, 0, 0, 0, 0, 0, []), some (.iload_n 3, 26, 0, 3, 0, 0, 0, 0, []), some (.iadd, 27, 0, 0, 0, 0, 0, 0, []), some (.iaload, 28, 0, 0, 0, 0, 0, 0, []), some (.aload_n 0, 29, 0, 0, 0, 0, 0, 0, []), some (.iload_n 1, 30, 0, 1, 0, 0, 0, 0, []), some (.iload_n 3, 31, 0, 3, 0, 0, 0, 0, []), some (.invokevirtual 147, 34, 9, 169, 2, 1080, 0, 0, [])]
def am_t_X9_canSpeak_2 : List (Option am_I) := [none, none, some (.if_icmp .lt 9, 37, 43, 0, 0, 0, 0, 0, []), none, none, some (.iconst 1, 38, 0, 0, 0, 0, 1, 0, []), some (.iload_n 3, 39, 0, 3, 0, 0, 0, 0, []), some (.ishl, 40, 0, 0, 0, 0, 0, 0, []), some (.goto 4, 43, 44, 0, 0, 0, 0, 0, []), none, none, some (.iconst 0, 44, 0, 0, 0, 0, 0, 0, []), some (.ior, 45, 0, 0, 0, 0, 0, 0, []), some (.istore_n 2, 46, 0, 2, 0, 0, 0, 0, []), some (.iinc 3 1, 49, 0, 3, 0, 0, 1, 0, []), none]
def am_t_X9_canSpeak_3 : List (Option am_I) := [none, some (.goto (-45), 52, 4, 0, 0, 0, 0, 0, []), none, none, some (.iload_n 2, 53, 0, 2, 0, 0, 0, 0, []), some (.ireturn, 54, 0, 0, 0, 0, 0, 0, [])]
def am_t_X9_canSpeak : am_T := [am_t_X9_canSpeak_0, am_t_X9_canSpeak_1, am_t_X9_canSpeak_2, am_t_X9_canSpeak_3]
theorem am_q_X9_canSpeak_0 : am_okQ (am_ok1 am_mt yX9_canSpeak.cls yX9_canSpeak.name cX9_canSpeak 4 (some .int)) 0 am_t_X9_canSpeak_0 = true := by decide +kernel
theorem am_q_X9_canSpeak_1 : am_okQ (am_ok1 am_mt yX9_canSpeak.cls yX9_canSpeak.name cX9_canSpeak 4 (some .int)) 1 am_t_X9_canSpeak_1 = true := by decide +kernel
theorem am_q_X9_canSpeak_2 : am_okQ (am_ok1 am_mt yX9_canSpeak.cls yX9_canSpeak.name cX9_canSpeak 4 (some .int)) 2 am_t_X9_canSpeak_2 = true := by decide +kernel
theorem am_q_X9_canSpeak_3 : am_okQ (am_ok1 am_mt yX9_canSpeak.cls yX9_canSpeak.name cX9_canSpeak 4 (some .int)) 3 am_t_X9_canSpeak_3 = true := by decide +kernel
theorem am_q_X9_canSpeak : am_okT (am_ok1 am_mt yX9_canSpeak.cls yX9_canSpeak.name cX9_canSpeak 4 (some .int)) 0 am_t_X9_canSpeak = true := am_okT_c am_q_X9_canSpeak_0 (am_okT_c am_q_X9_canSpeak_1 (am_okT_c am_q_X9_canSpeak_2 (am_okT_c am_q_X9_canSpeak_3 (rfl))))
def am_m_X9_canSpeak : am_M := (yX9_canSpeak, cX9_canSpeak, 4, (some .int), 1, 1079, 90, 1078, 49, 1, am_t_X9_canSpeak)
theorem am_k_X9_canSpeak : am_okM am_mt am_m_X9_canSpeak := ⟨by decide +kernel, am_q_X9_canSpeak⟩
def am_t_X9_weighs_0 : List (Option am_I) := [some (.bipush 20, 2, 0, 0, 0, 0, 20, 0, []), none, some (.aload_n 0, 3, 0, 0, 0, 0, 0, 0, []), some (.getfield 7, 6, 0, 9, 0, 899, 0, 0, []), none, none, some (.iload_n 1, 7, 0, 1, 0, 0, 0, 0, []), some (.bipush 13, 9, 0, 0, 0, 0, 13, 0, []), none, some (.iadd, 10, 0, 0, 0, 0, 0, 0, []), some (.iload_n 2, 11, 0, 2, 0, 0, 0, 0, []), some (.iadd, 12, 0, 0, 0, 0, 0, 0, []), some (.iaload, 13, 0, 0, 0, 0, 0, 0, []), some (.isub, 14, 0, 0, 0, 0, 0, 0, []), some (.istore_n 3, 15, 0, 3, 0, 0, 0, 0, []), some (.aload_n 0, 16, 0, 0, 0, 0, 0, 0, [])]
def am_t_X9_weighs_1 : List (Option am_I) := [some (.getfield 7, 19, 0, 9, 0, 899, 0, 0, []), none, none, some (.iload_n 1, 20, 0, 1, 0, 0, 0, 0, []), some (.bipush 9, 22, 0, 0, 0, 0, 9, 0, []), none, some (.iadd, 23, 0, 0, 0, 0, 0, 0, []), some (.iload_n 2, 24, 0, 2, 0, 0, 0, 0, []), some (.iadd, 25, 0, 0, 0, 0, 0, 0, []), some (.iaload, 26, 0, 0, 0, 0, 0, 0, []), some (.tableswitch 56 2 5 #[30, 56, 34, 36], 56, 82, 0, 0, 0, 0, 0, [(2, 56), (3, 82), (4, 60), (5, 62)]), none, none, none, none, none]
def am_t_X9_weighs_2 : List (Option am_I) := [none, none, none, none, none, none, none, none, none, none, none, none, none, none, none, none]
def am_t_X9_weighs_3 : List (Option am_I) := [none, none, none, none, none, none, none, none, some (.iconst 2, 57, 0, 0, 0, 0, 2, 0, []), some (.iload_n 3, 58, 0, 3, 0, 0, 0, 0, []), some (.imul, 59, 0, 0, 0, 0, 0, 0, []), some (.ireturn, 60, 0, 0, 0, 0, 0, 0, []), some (.iconst 5, 61, 0, 0, 0, 0, 5, 0, []), some (.ireturn, 62, 0, 0, 0, 0, 0, 0, []), some (.iconst 5, 63, 0, 0, 0, 0, 5, 0, []), some (.aload_n 0, 64, 0, 0, 0, 0, 0, 0, [])]
def am_t_X9_weighs_4 : List (Option am_I) := [some (.getfield 7, 67, 0, 9, 0, 899, 0, 0, []), none, none, some (.iload_n 1, 68, 0, 1, 0, 0, 0, 0, []), some (.iconst 1, 69, 0, 0, 0, 0, 1, 0, []), some (.iadd, 70, 0, 0, 0, 0, 0, 0, []), some (.iaload, 71, 0, 0, 0, 0, 0, 0, []), some (.iadd, 72, 0, 0, 0, 0, 0, 0, []), some (.aload_n 0, 73, 0, 0, 0, 0, 0, 0, []), some (.iload_n 1, 74, 0, 1, 0, 0, 0, 0, []), some (.invokevirtual 150, 77, 9, 170, 1, 1076, 0, 0, []), none, none, some (.invokestatic 153, 80, 0, 140, 1, 1114, 0, 0, []), none, none]
def am_t_X9_weighs_5 : List (Option am_I) := [some (.isub, 81, 0, 0, 0, 0, 0, 0, []), some (.ireturn, 82, 0, 0, 0, 0, 0, 0, []), some (.iload_n 3, 83, 0, 3, 0, 0, 0, 0, []), some (.ireturn, 84, 0, 0, 0, 0, 0, 0, [])]
def am_t_X9_weighs : am_T := [am_t_X9_weighs_0, am_t_X9_weighs_1, am_t_X9_weighs_2, am_t_X9_weighs_3, am_t_X9_weighs_4, am_t_X9_weighs_5]
theorem am_q_X9_weighs_0 : am_okQ (am_ok1 am_mt yX9_weighs.cls yX9_weighs.name cX9_weighs 4 (some .int)) 0 am_t_X9_weighs_0 = true := by decide +kernel
theorem am_q_X9_weighs_1 : am_okQ (am_ok1 am_mt yX9_weighs.cls yX9_weighs.name cX9_weighs 4 (some .int)) 1 am_t_X9_weighs_1 = true := by decide +kernel
theorem am_q_X9_weighs_2 : am_okQ (am_ok1 am_mt yX9_weighs.cls yX9_weighs.name cX9_weighs 4 (some .int)) 2 am_t_X9_weighs_2 = true := by decide +kernel
theorem am_q_X9_weighs_3 : am_okQ (am_ok1 am_mt yX9_weighs.cls yX9_weighs.name cX9_weighs 4 (some .int)) 3 am_t_X9_weighs_3 = true := by decide +kernel
theorem am_q_X9_weighs_4 : am_okQ (am_ok1 am_mt yX9_weighs.cls yX9_weighs.name cX9_weighs 4 (some .int)) 4 am_t_X9_weighs_4 = true := by decide +kernel
theorem am_q_X9_weighs_5 : am_okQ (am_ok1 am_mt yX9_weighs.cls yX9_weighs.name cX9_weighs 4 (some .int)) 5 am_t_X9_weighs_5 = true := by decide +kernel
theorem am_q_X9_weighs : am_okT (am_ok1 am_mt yX9_weighs.cls yX9_weighs.name cX9_weighs 4 (some .int)) 0 am_t_X9_weighs = true := am_okT_c am_q_X9_weighs_0 (am_okT_c am_q_X9_weighs_1 (am_okT_c am_q_X9_weighs_2 (am_okT_c am_q_X9_weighs_3 (am_okT_c am_q_X9_weighs_4 (am_okT_c am_q_X9_weighs_5 (rfl))))))
def am_m_X9_weighs : am_M := (yX9_weighs, cX9_weighs, 4, (some .int), 1, 1113, 90, 1112, 56, 2, am_t_X9_weighs)
theorem am_k_X9_weighs : am_okM am_mt am_m_X9_weighs := ⟨by decide +kernel, am_q_X9_weighs⟩
def am_t_X9_weightOf_0 : List (Option am_I) := [some (.iconst 0, 1, 0, 0, 0, 0, 0, 0, []), some (.istore_n 3, 2, 0, 3, 0, 0, 0, 0, []), some (.iconst 0, 3, 0, 0, 0, 0, 0, 0, []), some (.istore 4, 5, 0, 4, 0, 0, 0, 0, []), none, some (.iload 4, 7, 0, 4, 0, 0, 0, 0, []), none, some (.aload_n 0, 8, 0, 0, 0, 0, 0, 0, []), some (.getfield 7, 11, 0, 9, 0, 899, 0, 0, []), none, none, some (.iload_n 1, 12, 0, 1, 0, 0, 0, 0, []), some (.iconst 1, 13, 0, 0, 0, 0, 1, 0, []), some (.iadd, 14, 0, 0, 0, 0, 0, 0, []), some (.iaload, 15, 0, 0, 0, 0, 0, 0, []), some (.if_icmp .ge 32, 18, 47, 0, 0, 0, 0, 0, [])]
def am_t_X9_weightOf_1 : List (Option am_I) := [none, none, some (.iload_n 3, 19, 0, 3, 0, 0, 0, 0, []), some (.iload_n 2, 20, 0, 2, 0, 0, 0, 0, []), some (.iload 4, 22, 0, 4, 0, 0, 0, 0, []), none, some (.invokestatic 156, 25, 0, 138, 2, 1107, 0, 0, []), none, none, some (.ifCond .eq 13, 28, 38, 0, 0, 0, 0, 0, []), none, none, some (.aload_n 0, 29, 0, 0, 0, 0, 0, 0, []), some (.iload_n 1, 30, 0, 1, 0, 0, 0, 0, []), some (.iload 4, 32, 0, 4, 0, 0, 0, 0, []), none]
def am_t_X9_weightOf_2 : List (Option am_I) := [some (.invokevirtual 159, 35, 9, 171, 2, 1110, 0, 0, []), none, none, some (.goto 4, 38, 39, 0, 0, 0, 0, 0, []), none, none, some (.iconst 0, 39, 0, 0, 0, 0, 0, 0, []), some (.iadd, 40, 0, 0, 0, 0, 0, 0, []), some (.istore_n 3, 41, 0, 3, 0, 0, 0, 0, []), some (.iinc 4 1, 44, 0, 4, 0, 0, 1, 0, []), none, none, some (.goto (-39), 47, 5, 0, 0, 0, 0, 0, []), none, none, some (.iload_n 3, 48, 0, 3, 0, 0, 0, 0, [])]
def am_t_X9_weightOf_3 : List (Option am_I) := [some (.ireturn, 49, 0, 0, 0, 0, 0, 0, [])]
def am_t_X9_weightOf : am_T := [am_t_X9_weightOf_0, am_t_X9_weightOf_1, am_t_X9_weightOf_2, am_t_X9_weightOf_3]
theorem am_q_X9_weightOf_0 : am_okQ (am_ok1 am_mt yX9_weightOf.cls yX9_weightOf.name cX9_weightOf 5 (some .int)) 0 am_t_X9_weightOf_0 = true := by decide +kernel
theorem am_q_X9_weightOf_1 : am_okQ (am_ok1 am_mt yX9_weightOf.cls yX9_weightOf.name cX9_weightOf 5 (some .int)) 1 am_t_X9_weightOf_1 = true := by decide +kernel
theorem am_q_X9_weightOf_2 : am_okQ (am_ok1 am_mt yX9_weightOf.cls yX9_weightOf.name cX9_weightOf 5 (some .int)) 2 am_t_X9_weightOf_2 = true := by decide +kernel
theorem am_q_X9_weightOf_3 : am_okQ (am_ok1 am_mt yX9_weightOf.cls yX9_weightOf.name cX9_weightOf 5 (some .int)) 3 am_t_X9_weightOf_3 = true := by decide +kernel
theorem am_q_X9_weightOf : am_okT (am_ok1 am_mt yX9_weightOf.cls yX9_weightOf.name cX9_weightOf 5 (some .int)) 0 am_t_X9_weightOf = true := am_okT_c am_q_X9_weightOf_0 (am_okT_c am_q_X9_weightOf_1 (am_okT_c am_q_X9_weightOf_2 (am_okT_c am_q_X9_weightOf_3 (rfl))))
def am_m_X9_weightOf : am_M := (yX9_weightOf, cX9_weightOf, 5, (some .int), 1, 1106, 90, 1105, 55, 2, am_t_X9_weightOf)
theorem am_k_X9_weightOf : am_okM am_mt am_m_X9_weightOf := ⟨by decide +kernel, am_q_X9_weightOf⟩
def am_t_X9_motionOf_0 : List (Option am_I) := [some (.aload_n 0, 1, 0, 0, 0, 0, 0, 0, []), some (.getfield 7, 4, 0, 9, 0, 899, 0, 0, []), none, none, some (.iload_n 1, 5, 0, 1, 0, 0, 0, 0, []), some (.iconst 3, 6, 0, 0, 0, 0, 3, 0, []), some (.iadd, 7, 0, 0, 0, 0, 0, 0, []), some (.iaload, 8, 0, 0, 0, 0, 0, 0, []), some (.aload_n 0, 9, 0, 0, 0, 0, 0, 0, []), some (.getfield 7, 12, 0, 9, 0, 899, 0, 0, []), none, none, some (.iload_n 1, 13, 0, 1, 0, 0, 0, 0, []), some (.iconst 0, 14, 0, 0, 0, 0, 0, 0, []), some (.iadd, 15, 0, 0, 0, 0, 0, 0, []), some (.iaload, 16, 0, 0, 0, 0, 0, 0, [])]
def am_t_X9_motionOf_1 : List (Option am_I) := [some (.irem, 17, 0, 0, 0, 0, 0, 0, []), some (.ireturn, 18, 0, 0, 0, 0, 0, 0, [])]
def am_t_X9_motionOf : am_T := [am_t_X9_motionOf_0, am_t_X9_motionOf_1]
theorem am_q_X9_motionOf_0 : am_okQ (am_ok1 am_mt yX9_motionOf.cls yX9_motionOf.name cX9_motionOf 2 (some .int)) 0 am_t_X9_motionOf_0 = true := by decide +kernel
theorem am_q_X9_motionOf_1 : am_okQ (am_ok1 am_mt yX9_motionOf.cls yX9_motionOf.name cX9_motionOf 2 (some .int)) 1 am_t_X9_motionOf_1 = true := by decide +kernel
theorem am_q_X9_motionOf : am_okT (am_ok1 am_mt yX9_motionOf.cls yX9_motionOf.name cX9_motionOf 2 (some .int)) 0 am_t_X9_motionOf = true := am_okT_c am_q_X9_motionOf_0 (am_okT_c am_q_X9_motionOf_1 (rfl))
def am_m_X9_motionOf : am_M := (yX9_motionOf, cX9_motionOf, 2, (some .int), 1, 1098, 90, 1097, 53, 1, am_t_X9_motionOf)
theorem am_k_X9_motionOf : am_okM am_mt am_m_X9_motionOf := ⟨by decide +kernel, am_q_X9_motionOf⟩
def am_t_X9_isCarried_0 : List (Option am_I) := [some (.aload_n 0, 1, 0, 0, 0, 0, 0, 0, []), some (.iload_n 1, 2, 0, 1, 0, 0, 0, 0, []), some (.iload_n 2, 3, 0, 2, 0, 0, 0, 0, []), some (.invokevirtual 162, 6, 9, 172, 2, 1103, 0, 0, []), none, none, some (.aload_n 0, 7, 0, 0, 0, 0, 0, 0, []), some (.getfield 7, 10, 0, 9, 0, 899, 0, 0, []), none, none, some (.iload_n 1, 11, 0, 1, 0, 0, 0, 0, []), some (.iconst 5, 12, 0, 0, 0, 0, 5, 0, []), some (.iadd, 13, 0, 0, 0, 0, 0, 0, []), some (.aload_n 0, 14, 0, 0, 0, 0, 0, 0, []), some (.iload_n 1, 15, 0, 1, 0, 0, 0, 0, []), some (.invokevirtual 165, 18, 9, 173, 1, 1095, 0, 0, [])]
def am_t_X9_isCarried_1 : List (Option am_I) := [none, none, some (.iadd, 19, 0, 0, 0, 0, 0, 0, []), some (.iaload, 20, 0, 0, 0, 0, 0, 0, []), some (.if_icmp .lt 7, 23, 27, 0, 0, 0, 0, 0, []), none, none, some (.iconst 1, 24, 0, 0, 0, 0, 1, 0, []), some (.goto 4, 27, 28, 0, 0, 0, 0, 0, []), none, none, some (.iconst 0, 28, 0, 0, 0, 0, 0, 0, []), some (.ireturn, 29, 1, 0, 0, 0, 0, 0, [])]
def am_t_X9_isCarried : am_T := [am_t_X9_isCarried_0, am_t_X9_isCarried_1]
theorem am_q_X9_isCarried_0 : am_okQ (am_ok1 am_mt yX9_isCarried.cls yX9_isCarried.name cX9_isCarried 3 (some .boolean)) 0 am_t_X9_isCarried_0 = true := by decide +kernel
theorem am_q_X9_isCarried_1 : am_okQ (am_ok1 am_mt yX9_isCarried.cls yX9_isCarried.name cX9_isCarried 3 (some .boolean)) 1 am_t_X9_isCarried_1 = true := by decide +kernel
theorem am_q_X9_isCarried : am_okT (am_ok1 am_mt yX9_isCarried.cls yX9_isCarried.name cX9_isCarried 3 (some .boolean)) 0 am_t_X9_isCarried = true := am_okT_c am_q_X9_isCarried_0 (am_okT_c am_q_X9_isCarried_1 (rfl))
def am_m_X9_isCarried : am_M := (yX9_isCarried, cX9_isCarried, 3, (some .boolean), 1, 1172, 90, 1171, 59, 2, am_t_X9_isCarried)
theorem am_k_X9_isCarried : am_okM am_mt am_m_X9_isCarried := ⟨by decide +kernel, am_q_X9_isCarried⟩
def am_t_X9_passFor_0 : List (Option am_I) := [some (.aload_n 0, 1, 0, 0, 0, 0, 0, 0, []), some (.iload_n 1, 2, 0, 1, 0, 0, 0, 0, []), some (.iload_n 2, 3, 0, 2, 0, 0, 0, 0, []), some (.invokevirtual 162, 6, 9, 172, 2, 1103, 0, 0, []), none, none, some (.iload_n 3, 7, 0, 3, 0, 0, 0, 0, []), some (.if_icmp .lt 7, 10, 14, 0, 0, 0, 0, 0, []), none, none, some (.iconst 1, 11, 0, 0, 0, 0, 1, 0, []), some (.goto 4, 14, 15, 0, 0, 0, 0, 0, []), none, none, some (.iconst 0, 15, 0, 0, 0, 0, 0, 0, []), some (.istore 4, 17, 0, 4, 0, 0, 0, 0, [])]
def am_t_X9_passFor_1 : List (Option am_I) := [none, some (.iconst 0, 18, 0, 0, 0, 0, 0, 0, []), some (.istore 5, 20, 0, 5, 0, 0, 0, 0, []), none, some (.iload 5, 22, 0, 5, 0, 0, 0, 0, []), none, some (.aload_n 0, 23, 0, 0, 0, 0, 0, 0, []), some (.getfield 7, 26, 0, 9, 0, 899, 0, 0, []), none, none, some (.iload_n 1, 27, 0, 1, 0, 0, 0, 0, []), some (.iconst 1, 28, 0, 0, 0, 0, 1, 0, []), some (.iadd, 29, 0, 0, 0, 0, 0, 0, []), some (.iaload, 30, 0, 0, 0, 0, 0, 0, []), some (.if_icmp .ge 119, 33, 149, 0, 0, 0, 0, 0, []), none]
def am_t_X9_passFor_2 : List (Option am_I) := [none, some (.aload_n 0, 34, 0, 0, 0, 0, 0, 0, []), some (.getfield 7, 37, 0, 9, 0, 899, 0, 0, []), none, none, some (.iload_n 1, 38, 0, 1, 0, 0, 0, 0, []), some (.bipush 9, 40, 0, 0, 0, 0, 9, 0, []), none, some (.iadd, 41, 0, 0, 0, 0, 0, 0, []), some (.iload 5, 43, 0, 5, 0, 0, 0, 0, []), none, some (.iadd, 44, 0, 0, 0, 0, 0, 0, []), some (.iaload, 45, 0, 0, 0, 0, 0, 0, []), some (.iconst 3, 46, 0, 0, 0, 0, 3, 0, []), some (.if_icmp .ne 17, 49, 63, 0, 0, 0, 0, 0, []), none]
def am_t_X9_passFor_3 : List (Option am_I) := [none, some (.aload_n 0, 50, 0, 0, 0, 0, 0, 0, []), some (.getfield 7, 53, 0, 9, 0, 899, 0, 0, []), none, none, some (.iload_n 1, 54, 0, 1, 0, 0, 0, 0, []), some (.iconst 3, 55, 0, 0, 0, 0, 3, 0, []), some (.iadd, 56, 0, 0, 0, 0, 0, 0, []), some (.iaload, 57, 0, 0, 0, 0, 0, 0, []), some (.iconst 2, 58, 0, 0, 0, 0, 2, 0, []), some (.irem, 59, 0, 0, 0, 0, 0, 0, []), some (.iconst 1, 60, 0, 0, 0, 0, 1, 0, []), some (.if_icmp .ne 7, 63, 67, 0, 0, 0, 0, 0, []), none, none, some (.iconst 1, 64, 0, 0, 0, 0, 1, 0, [])]
def am_t_X9_passFor_4 : List (Option am_I) := [some (.goto 4, 67, 68, 0, 0, 0, 0, 0, []), none, none, some (.iconst 0, 68, 0, 0, 0, 0, 0, 0, []), some (.istore 6, 70, 0, 6, 0, 0, 0, 0, []), none, some (.iload_n 2, 71, 0, 2, 0, 0, 0, 0, []), some (.iload 5, 73, 0, 5, 0, 0, 0, 0, []), none, some (.invokestatic 156, 76, 0, 138, 2, 1107, 0, 0, []), none, none, some (.ifCond .eq 14, 79, 90, 0, 0, 0, 0, 0, []), none, none, some (.aload_n 0, 80, 0, 0, 0, 0, 0, 0, [])]
def am_t_X9_passFor_5 : List (Option am_I) := [some (.iload_n 1, 81, 0, 1, 0, 0, 0, 0, []), some (.iload 5, 83, 0, 5, 0, 0, 0, 0, []), none, some (.invokevirtual 147, 86, 9, 169, 2, 1080, 0, 0, []), none, none, some (.ineg, 87, 0, 0, 0, 0, 0, 0, []), some (.goto 24, 90, 111, 0, 0, 0, 0, 0, []), none, none, some (.iload 6, 92, 0, 6, 0, 0, 0, 0, []), none, some (.ifCond .eq 18, 95, 110, 0, 0, 0, 0, 0, []), none, none, some (.aload_n 0, 96, 0, 0, 0, 0, 0, 0, [])]
def am_t_X9_passFor_6 : List (Option am_I) := [some (.getfield 7, 99, 0, 9, 0, 899, 0, 0, []), none, none, some (.iload_n 1, 100, 0, 1, 0, 0, 0, 0, []), some (.bipush 17, 102, 0, 0, 0, 0, 17, 0, []), none, some (.iadd, 103, 0, 0, 0, 0, 0, 0, []), some (.iload 5, 105, 0, 5, 0, 0, 0, 0, []), none, some (.iadd, 106, 0, 0, 0, 0, 0, 0, []), some (.iaload, 107, 0, 0, 0, 0, 0, 0, []), some (.goto 4, 110, 111, 0, 0, 0, 0, 0, []), none, none, some (.iconst 0, 111, 0, 0, 0, 0, 0, 0, []), some (.istore 7, 113, 0, 7, 0, 0, 0, 0, [])]
def am_t_X9_passFor_7 : List (Option am_I) := [none, some (.aload_n 0, 114, 0, 0, 0, 0, 0, 0, []), some (.getfield 7, 117, 0, 9, 0, 899, 0, 0, []), none, none, some (.iload_n 1, 118, 0, 1, 0, 0, 0, 0, []), some (.bipush 13, 120, 0, 0, 0, 0, 13, 0, []), none, some (.iadd, 121, 0, 0, 0, 0, 0, 0, []), some (.iload 5, 123, 0, 5, 0, 0, 0, 0, []), none, some (.iadd, 124, 0, 0, 0, 0, 0, 0, []), some (.aload_n 0, 125, 0, 0, 0, 0, 0, 0, []), some (.getfield 7, 128, 0, 9, 0, 899, 0, 0, []), none, none]
def am_t_X9_passFor_8 : List (Option am_I) := [some (.iload_n 1, 129, 0, 1, 0, 0, 0, 0, []), some (.bipush 13, 131, 0, 0, 0, 0, 13, 0, []), none, some (.iadd, 132, 0, 0, 0, 0, 0, 0, []), some (.iload 5, 134, 0, 5, 0, 0, 0, 0, []), none, some (.iadd, 135, 0, 0, 0, 0, 0, 0, []), some (.iaload, 136, 0, 0, 0, 0, 0, 0, []), some (.iload 7, 138, 0, 7, 0, 0, 0, 0, []), none, some (.iadd, 139, 0, 0, 0, 0, 0, 0, []), some (.invokestatic 168, 142, 0, 139, 1, 1117, 0, 0, []), none, none, some (.iastore, 143, 0, 0, 0, 0, 0, 0, []), some (.iinc 5 1, 146, 0, 5, 0, 0, 1, 0, [])]
def am_t_X9_passFor_9 : List (Option am_I) := [none, none, some (.goto (-126), 149, 20, 0, 0, 0, 0, 0, []), none, none, some (.aload_n 0, 150, 0, 0, 0, 0, 0, 0, []), some (.getfield 7, 153, 0, 9, 0, 899, 0, 0, []), none, none, some (.iload_n 1, 154, 0, 1, 0, 0, 0, 0, []), some (.iconst 3, 155, 0, 0, 0, 0, 3, 0, []), some (.iadd, 156, 0, 0, 0, 0, 0, 0, []), some (.dup2, 157, 0, 0, 0, 0, 0, 0, []), some (.iaload, 158, 0, 0, 0, 0, 0, 0, []), some (.iconst 1, 159, 0, 0, 0, 0, 1, 0, []), some (.iadd, 160, 0, 0, 0, 0, 0, 0, [])]
def am_t_X9_passFor_10 : List (Option am_I) := [some (.iastore, 161, 0, 0, 0, 0, 0, 0, []), some (.aload_n 0, 162, 0, 0, 0, 0, 0, 0, []), some (.getfield 7, 165, 0, 9, 0, 899, 0, 0, []), none, none, some (.iload_n 1, 166, 0, 1, 0, 0, 0, 0, []), some (.iconst 4, 167, 0, 0, 0, 0, 4, 0, []), some (.iadd, 168, 0, 0, 0, 0, 0, 0, []), some (.dup2, 169, 0, 0, 0, 0, 0, 0, []), some (.iaload, 170, 0, 0, 0, 0, 0, 0, []), some (.iload 4, 172, 0, 4, 0, 0, 0, 0, []), none, some (.iadd, 173, 0, 0, 0, 0, 0, 0, []), some (.iastore, 174, 0, 0, 0, 0, 0, 0, []), some (.iload 4, 176, 0, 4, 0, 0, 0, 0, []), none]
def am_t_X9_passFor_11 : List (Option am_I) := [some (.ireturn, 177, 0, 0, 0, 0, 0, 0, [])]
def am_t_X9_passFor : am_T := [am_t_X9_passFor_0, am_t_X9_passFor_1, am_t_X9_passFor_2, am_t_X9_passFor_3, am_t_X9_passFor_4, am_t_X9_passFor_5, am_t_X9_passFor_6, am_t_X9_passFor_7, am_t_X9_passFor_8, am_t_X9_passFor_9, am_t_X9_passFor_10, am_t_X9_passFor_11]
theorem am_q_X9_passFor_0 : am_okQ (am_ok1 am_mt yX9_passFor.cls yX9_passFor.name cX9_passFor 8 (some .int)) 0 am_t_X9_passFor_0 = true := by decide +kernel
theorem am_q_X9_passFor_1 : am_okQ (am_ok1 am_mt yX9_passFor.cls yX9_passFor.name cX9_passFor 8 (some .int)) 1 am_t_X9_passFor_1 = true := by decide +kernel
theorem am_q_X9_passFor_2 : am_okQ (am_ok1 am_mt yX9_passFor.cls yX9_passFor.name cX9_passFor 8 (some .int)) 2 am_t_X9_passFor_2 = true := by decide +kernel
theorem am_q_X9_passFor_3 : am_okQ (am_ok1 am_mt yX9_passFor.cls yX9_passFor.name cX9_passFor 8 (some .int)) 3 am_t_X9_passFor_3 = true := by decide +kernel
theorem am_q_X9_passFor_4 : am_okQ (am_ok1 am_mt yX9_passFor.cls yX9_passFor.name cX9_passFor 8 (some .int)) 4 am_t_X9_passFor_4 = true := by decide +kernel
theorem am_q_X9_passFor_5 : am_okQ (am_ok1 am_mt yX9_passFor.cls yX9_passFor.name cX9_passFor 8 (some .int)) 5 am_t_X9_passFor_5 = true := by decide +kernel
theorem am_q_X9_passFor_6 : am_okQ (am_ok1 am_mt yX9_passFor.cls yX9_passFor.name cX9_passFor 8 (some .int)) 6 am_t_X9_passFor_6 = true := by decide +kernel
theorem am_q_X9_passFor_7 : am_okQ (am_ok1 am_mt yX9_passFor.cls yX9_passFor.name cX9_passFor 8 (some .int)) 7 am_t_X9_passFor_7 = true := by decide +kernel
theorem am_q_X9_passFor_8 : am_okQ (am_ok1 am_mt yX9_passFor.cls yX9_passFor.name cX9_passFor 8 (some .int)) 8 am_t_X9_passFor_8 = true := by decide +kernel
theorem am_q_X9_passFor_9 : am_okQ (am_ok1 am_mt yX9_passFor.cls yX9_passFor.name cX9_passFor 8 (some .int)) 9 am_t_X9_passFor_9 = true := by decide +kernel
theorem am_q_X9_passFor_10 : am_okQ (am_ok1 am_mt yX9_passFor.cls yX9_passFor.name cX9_passFor 8 (some .int)) 10 am_t_X9_passFor_10 = true := by decide +kernel
theorem am_q_X9_passFor_11 : am_okQ (am_ok1 am_mt yX9_passFor.cls yX9_passFor.name cX9_passFor 8 (some .int)) 11 am_t_X9_passFor_11 = true := by decide +kernel
theorem am_q_X9_passFor : am_okT (am_ok1 am_mt yX9_passFor.cls yX9_passFor.name cX9_passFor 8 (some .int)) 0 am_t_X9_passFor = true := am_okT_c am_q_X9_passFor_0 (am_okT_c am_q_X9_passFor_1 (am_okT_c am_q_X9_passFor_2 (am_okT_c am_q_X9_passFor_3 (am_okT_c am_q_X9_passFor_4 (am_okT_c am_q_X9_passFor_5 (am_okT_c am_q_X9_passFor_6 (am_okT_c am_q_X9_passFor_7 (am_okT_c am_q_X9_passFor_8 (am_okT_c am_q_X9_passFor_9 (am_okT_c am_q_X9_passFor_10 (am_okT_c am_q_X9_passFor_11 (rfl))))))))))))
def am_m_X9_passFor : am_M := (yX9_passFor, cX9_passFor, 8, (some .int), 1, 1102, 90, 1101, 54, 3, am_t_X9_passFor)
theorem am_k_X9_passFor : am_okM am_mt am_m_X9_passFor := ⟨by decide +kernel, am_q_X9_passFor⟩
def am_t_X9_pass_0 : List (Option am_I) := [some (.aload_n 0, 1, 0, 0, 0, 0, 0, 0, []), some (.iload_n 1, 2, 0, 1, 0, 0, 0, 0, []), some (.iload_n 2, 3, 0, 2, 0, 0, 0, 0, []), some (.aload_n 0, 4, 0, 0, 0, 0, 0, 0, []), some (.getfield 7, 7, 0, 9, 0, 899, 0, 0, []), none, none, some (.iload_n 1, 8, 0, 1, 0, 0, 0, 0, []), some (.iconst 5, 9, 0, 0, 0, 0, 5, 0, []), some (.iadd, 10, 0, 0, 0, 0, 0, 0, []), some (.aload_n 0, 11, 0, 0, 0, 0, 0, 0, []), some (.iload_n 1, 12, 0, 1, 0, 0, 0, 0, []), some (.invokevirtual 165, 15, 9, 173, 1, 1095, 0, 0, []), none, none, some (.iadd, 16, 0, 0, 0, 0, 0, 0, [])]
def am_t_X9_pass_1 : List (Option am_I) := [some (.iaload, 17, 0, 0, 0, 0, 0, 0, []), some (.invokevirtual 171, 20, 9, 175, 3, 1099, 0, 0, []), none, none, some (.ireturn, 21, 0, 0, 0, 0, 0, 0, [])]
def am_t_X9_pass : am_T := [am_t_X9_pass_0, am_t_X9_pass_1]
theorem am_q_X9_pass_0 : am_okQ (am_ok1 am_mt yX9_pass.cls yX9_pass.name cX9_pass 3 (some .int)) 0 am_t_X9_pass_0 = true := by decide +kernel
theorem am_q_X9_pass_1 : am_okQ (am_ok1 am_mt yX9_pass.cls yX9_pass.name cX9_pass 3 (some .int)) 1 am_t_X9_pass_1 = true := by decide +kernel
theorem am_q_X9_pass : am_okT (am_ok1 am_mt yX9_pass.cls yX9_pass.name cX9_pass 3 (some .int)) 0 am_t_X9_pass = true := am_okT_c am_q_X9_pass_0 (am_okT_c am_q_X9_pass_1 (rfl))
def am_m_X9_pass : am_M := (yX9_pass, cX9_pass, 3, (some .int), 1, 1094, 90, 1093, 52, 2, am_t_X9_pass)
theorem am_k_X9_pass : am_okM am_mt am_m_X9_pass := ⟨by decide +kernel, am_q_X9_pass⟩
def am_t_X9_passAll_0 : List (Option am_I) := [some (.aload_n 0, 1, 0, 0, 0, 0, 0, 0, []), some (.iload_n 1, 2, 0, 1, 0, 0, 0, 0, []), some (.aload_n 0, 3, 0, 0, 0, 0, 0, 0, []), some (.iload_n 1, 4, 0, 1, 0, 0, 0, 0, []), some (.invokevirtual 150, 7, 9, 170, 1, 1076, 0, 0, []), none, none, some (.invokevirtual 175, 10, 9, 176, 2, 1091, 0, 0, []), none, none, some (.ireturn, 11, 0, 0, 0, 0, 0, 0, [])]
def am_t_X9_passAll : am_T := [am_t_X9_passAll_0]
theorem am_q_X9_passAll_0 : am_okQ (am_ok1 am_mt yX9_passAll.cls yX9_passAll.name cX9_passAll 2 (some .int)) 0 am_t_X9_passAll_0 = true := by decide +kernel
theorem am_q_X9_passAll : am_okT (am_ok1 am_mt yX9_passAll.cls yX9_passAll.name cX9_passAll 2 (some .int)) 0 am_t_X9_passAll = true := am_okT_c am_q_X9_passAll_0 (rfl)
def am_m_X9_passAll : am_M := (yX9_passAll, cX9_passAll, 2, (some .int), 1, 1224, 90, 1223, 67, 1, am_t_X9_passAll)
theorem am_k_X9_passAll : am_okM am_mt am_m_X9_passAll := ⟨by decide +kernel, am_q_X9_passAll⟩
def am_t_X9_areMembers_0 : List (Option am_I) := [some (.iload_n 1, 1, 0, 1, 0, 0, 0, 0, []), some (.i2l, 2, 0, 0, 0, 0, 0, 0, []), some (.lconst 0, 3, 0, 0, 0, 0, 0, 0, []), some (.iconst 1, 4, 0, 0, 0, 0, 1, 0, []), some (.aload_n 0, 5, 0, 0, 0, 0, 0, 0, []), some (.getfield 7, 8, 0, 9, 0, 899, 0, 0, []), none, none, some (.iconst 1, 9, 0, 0, 0, 0, 1, 0, []), some (.iaload, 10, 0, 0, 0, 0, 0, 0, []), some (.ishl, 11, 0, 0, 0, 0, 0, 0, []), some (.iconst 1, 12, 0, 0, 0, 0, 1, 0, []), some (.isub, 13, 0, 0, 0, 0, 0, 0, []), some (.i2l, 14, 0, 0, 0, 0, 0, 0, []), some (.invokestatic 48, 17, 0, 137, 3, 966, 0, 0, []), none]
def am_t_X9_areMembers_1 : List (Option am_I) := [none, some (.ireturn, 18, 1, 0, 0, 0, 0, 0, [])]
def am_t_X9_areMembers : am_T := [am_t_X9_areMembers_0, am_t_X9_areMembers_1]
theorem am_q_X9_areMembers_0 : am_okQ (am_ok1 am_mt yX9_areMembers.cls yX9_areMembers.name cX9_areMembers 2 (some .boolean)) 0 am_t_X9_areMembers_0 = true := by decide +kernel
theorem am_q_X9_areMembers_1 : am_okQ (am_ok1 am_mt yX9_areMembers.cls yX9_areMembers.name cX9_areMembers 2 (some .boolean)) 1 am_t_X9_areMembers_1 = true := by decide +kernel
theorem am_q_X9_areMembers : am_okT (am_ok1 am_mt yX9_areMembers.cls yX9_areMembers.name cX9_areMembers 2 (some .boolean)) 0 am_t_X9_areMembers = true := am_okT_c am_q_X9_areMembers_0 (am_okT_c am_q_X9_areMembers_1 (rfl))
def am_m_X9_areMembers : am_M := (yX9_areMembers, cX9_areMembers, 2, (some .boolean), 1, 1075, 90, 1074, 48, 1, am_t_X9_areMembers)
theorem am_k_X9_areMembers : am_okM am_mt am_m_X9_areMembers := ⟨by decide +kernel, am_q_X9_areMembers⟩
def am_t_X9_speak_0 : List (Option am_I) := [some (.aload_n 0, 1, 0, 0, 0, 0, 0, 0, []), some (.getfield 136, 4, 0, 9, 1, 900, 0, 0, []), none, none, some (.ifCond .ne 6, 7, 10, 0, 0, 0, 0, 0, []), none, none, some (.ldc 143, 9, 0, 0, 0, 1067, (-1000002), 0, []), none, some (.ireturn, 10, 0, 0, 0, 0, 0, 0, []), some (.aload_n 0, 11, 0, 0, 0, 0, 0, 0, []), some (.iload_n 1, 12, 0, 1, 0, 0, 0, 0, []), some (.invokevirtual 178, 15, 9, 178, 1, 1072, 0, 0, []), none, none, some (.ifCond .ne 6, 18, 21, 0, 0, 0, 0, 0, [])]
def am_t_X9_speak_1 : List (Option am_I) := [none, none, some (.ldc 58, 20, 0, 0, 0, 970, (-1000001), 0, []), none, some (.ireturn, 21, 0, 0, 0, 0, 0, 0, []), some (.iload_n 1, 22, 0, 1, 0, 0, 0, 0, []), some (.aload_n 0, 23, 0, 0, 0, 0, 0, 0, []), some (.iconst 0, 24, 0, 0, 0, 0, 0, 0, []), some (.invokevirtual 150, 27, 9, 170, 1, 1076, 0, 0, []), none, none, some (.iconst (-1), 28, 0, 0, 0, 0, (-1), 0, []), some (.ixor, 29, 0, 0, 0, 0, 0, 0, []), some (.iand, 30, 0, 0, 0, 0, 0, 0, []), some (.ifCond .eq 6, 33, 36, 0, 0, 0, 0, 0, []), none]
def am_t_X9_speak_2 : List (Option am_I) := [none, some (.ldc 143, 35, 0, 0, 0, 1067, (-1000002), 0, []), none, some (.ireturn, 36, 0, 0, 0, 0, 0, 0, []), some (.aload_n 0, 37, 0, 0, 0, 0, 0, 0, []), some (.getfield 7, 40, 0, 9, 0, 899, 0, 0, []), none, none, some (.iconst 3, 41, 0, 0, 0, 0, 3, 0, []), some (.iaload, 42, 0, 0, 0, 0, 0, 0, []), some (.sipush 999, 45, 0, 0, 0, 0, 999, 0, []), none, none, some (.if_icmp .ne 6, 48, 51, 0, 0, 0, 0, 0, []), none, none]
def am_t_X9_speak_3 : List (Option am_I) := [some (.ldc 79, 50, 0, 0, 0, 1004, (-1000003), 0, []), none, some (.ireturn, 51, 0, 0, 0, 0, 0, 0, []), some (.aload_n 0, 52, 0, 0, 0, 0, 0, 0, []), some (.invokevirtual 181, 55, 9, 165, 0, 1087, 0, 0, []), none, none, some (.aload_n 0, 56, 0, 0, 0, 0, 0, 0, []), some (.iconst 0, 57, 0, 0, 0, 0, 0, 0, []), some (.iload_n 1, 58, 0, 1, 0, 0, 0, 0, []), some (.invokevirtual 175, 61, 9, 176, 2, 1091, 0, 0, []), none, none, some (.ireturn, 62, 0, 0, 0, 0, 0, 0, [])]
def am_t_X9_speak : am_T := [am_t_X9_speak_0, am_t_X9_speak_1, am_t_X9_speak_2, am_t_X9_speak_3]
theorem am_q_X9_speak_0 : am_okQ (am_ok1 am_mt yX9_speak.cls yX9_speak.name cX9_speak 2 (some .int)) 0 am_t_X9_speak_0 = true := by decide +kernel
theorem am_q_X9_speak_1 : am_okQ (am_ok1 am_mt yX9_speak.cls yX9_speak.name cX9_speak 2 (some .int)) 1 am_t_X9_speak_1 = true := by decide +kernel
theorem am_q_X9_speak_2 : am_okQ (am_ok1 am_mt yX9_speak.cls yX9_speak.name cX9_speak 2 (some .int)) 2 am_t_X9_speak_2 = true := by decide +kernel
theorem am_q_X9_speak_3 : am_okQ (am_ok1 am_mt yX9_speak.cls yX9_speak.name cX9_speak 2 (some .int)) 3 am_t_X9_speak_3 = true := by decide +kernel
theorem am_q_X9_speak : am_okT (am_ok1 am_mt yX9_speak.cls yX9_speak.name cX9_speak 2 (some .int)) 0 am_t_X9_speak = true := am_okT_c am_q_X9_speak_0 (am_okT_c am_q_X9_speak_1 (am_okT_c am_q_X9_speak_2 (am_okT_c am_q_X9_speak_3 (rfl))))
def am_m_X9_speak : am_M := (yX9_speak, cX9_speak, 2, (some .int), 1, 1071, 90, 1069, 1070, 1, am_t_X9_speak)
theorem am_k_X9_speak : am_okM am_mt am_m_X9_speak := ⟨by decide +kernel, am_q_X9_speak⟩
def am_t_X9_lozenge_0 : List (Option am_I) := [some (.aload_n 0, 1, 0, 0, 0, 0, 0, 0, []), some (.iload_n 1, 2, 0, 1, 0, 0, 0, 0, []), some (.invokevirtual 184, 5, 9, 167, 1, 1124, 0, 0, []), none, none, some (.ifCond .ne 6, 8, 11, 0, 0, 0, 0, 0, []), none, none, some (.ldc 58, 10, 0, 0, 0, 970, (-1000001), 0, []), none, some (.ireturn, 11, 0, 0, 0, 0, 0, 0, []), some (.aload_n 0, 12, 0, 0, 0, 0, 0, 0, []), some (.invokevirtual 181, 15, 9, 165, 0, 1087, 0, 0, []), none, none, some (.aload_n 0, 16, 0, 0, 0, 0, 0, 0, [])]
def am_t_X9_lozenge_1 : List (Option am_I) := [some (.getfield 7, 19, 0, 9, 0, 899, 0, 0, []), none, none, some (.bipush 13, 21, 0, 0, 0, 0, 13, 0, []), none, some (.iload_n 1, 22, 0, 1, 0, 0, 0, 0, []), some (.iadd, 23, 0, 0, 0, 0, 0, 0, []), some (.aload_n 0, 24, 0, 0, 0, 0, 0, 0, []), some (.getfield 7, 27, 0, 9, 0, 899, 0, 0, []), none, none, some (.bipush 13, 29, 0, 0, 0, 0, 13, 0, []), none, some (.iload_n 1, 30, 0, 1, 0, 0, 0, 0, []), some (.iadd, 31, 0, 0, 0, 0, 0, 0, []), some (.iaload, 32, 0, 0, 0, 0, 0, 0, [])]
def am_t_X9_lozenge_2 : List (Option am_I) := [some (.iconst 5, 33, 0, 0, 0, 0, 5, 0, []), some (.iadd, 34, 0, 0, 0, 0, 0, 0, []), some (.invokestatic 168, 37, 0, 139, 1, 1117, 0, 0, []), none, none, some (.iastore, 38, 0, 0, 0, 0, 0, 0, []), some (.aload_n 0, 39, 0, 0, 0, 0, 0, 0, []), some (.getfield 7, 42, 0, 9, 0, 899, 0, 0, []), none, none, some (.bipush 13, 44, 0, 0, 0, 0, 13, 0, []), none, some (.iload_n 1, 45, 0, 1, 0, 0, 0, 0, []), some (.iadd, 46, 0, 0, 0, 0, 0, 0, []), some (.iaload, 47, 0, 0, 0, 0, 0, 0, []), some (.ireturn, 48, 0, 0, 0, 0, 0, 0, [])]
def am_t_X9_lozenge : am_T := [am_t_X9_lozenge_0, am_t_X9_lozenge_1, am_t_X9_lozenge_2]
theorem am_q_X9_lozenge_0 : am_okQ (am_ok1 am_mt yX9_lozenge.cls yX9_lozenge.name cX9_lozenge 2 (some .int)) 0 am_t_X9_lozenge_0 = true := by decide +kernel
theorem am_q_X9_lozenge_1 : am_okQ (am_ok1 am_mt yX9_lozenge.cls yX9_lozenge.name cX9_lozenge 2 (some .int)) 1 am_t_X9_lozenge_1 = true := by decide +kernel
theorem am_q_X9_lozenge_2 : am_okQ (am_ok1 am_mt yX9_lozenge.cls yX9_lozenge.name cX9_lozenge 2 (some .int)) 2 am_t_X9_lozenge_2 = true := by decide +kernel
theorem am_q_X9_lozenge : am_okT (am_ok1 am_mt yX9_lozenge.cls yX9_lozenge.name cX9_lozenge 2 (some .int)) 0 am_t_X9_lozenge = true := am_okT_c am_q_X9_lozenge_0 (am_okT_c am_q_X9_lozenge_1 (am_okT_c am_q_X9_lozenge_2 (rfl)))
def am_m_X9_lozenge : am_M := (yX9_lozenge, cX9_lozenge, 2, (some .int), 1, 1123, 90, 1121, 1122, 1, am_t_X9_lozenge)
theorem am_k_X9_lozenge : am_okM am_mt am_m_X9_lozenge := ⟨by decide +kernel, am_q_X9_lozenge⟩
def am_t_X9_cold_0 : List (Option am_I) := [some (.aload_n 0, 1, 0, 0, 0, 0, 0, 0, []), some (.iload_n 1, 2, 0, 1, 0, 0, 0, 0, []), some (.invokevirtual 184, 5, 9, 167, 1, 1124, 0, 0, []), none, none, some (.ifCond .eq 15, 8, 20, 0, 0, 0, 0, 0, []), none, none, some (.iload_n 2, 9, 0, 2, 0, 0, 0, 0, []), some (.i2l, 10, 0, 0, 0, 0, 0, 0, []), some (.lconst 0, 11, 0, 0, 0, 0, 0, 0, []), some (.ldc2_w 187, 14, 0, 0, 0, 1132, 0, 20, []), none, none, some (.invokestatic 48, 17, 0, 137, 3, 966, 0, 0, []), none]
def am_t_X9_cold_1 : List (Option am_I) := [none, some (.ifCond .ne 6, 20, 23, 0, 0, 0, 0, 0, []), none, none, some (.ldc 58, 22, 0, 0, 0, 970, (-1000001), 0, []), none, some (.ireturn, 23, 0, 0, 0, 0, 0, 0, []), some (.aload_n 0, 24, 0, 0, 0, 0, 0, 0, []), some (.invokevirtual 181, 27, 9, 165, 0, 1087, 0, 0, []), none, none, some (.aload_n 0, 28, 0, 0, 0, 0, 0, 0, []), some (.getfield 7, 31, 0, 9, 0, 899, 0, 0, []), none, none, some (.bipush 13, 33, 0, 0, 0, 0, 13, 0, [])]
def am_t_X9_cold_2 : List (Option am_I) := [none, some (.iload_n 1, 34, 0, 1, 0, 0, 0, 0, []), some (.iadd, 35, 0, 0, 0, 0, 0, 0, []), some (.iaload, 36, 0, 0, 0, 0, 0, 0, []), some (.istore_n 3, 37, 0, 3, 0, 0, 0, 0, []), some (.aload_n 0, 38, 0, 0, 0, 0, 0, 0, []), some (.getfield 7, 41, 0, 9, 0, 899, 0, 0, []), none, none, some (.bipush 13, 43, 0, 0, 0, 0, 13, 0, []), none, some (.iload_n 1, 44, 0, 1, 0, 0, 0, 0, []), some (.iadd, 45, 0, 0, 0, 0, 0, 0, []), some (.iload_n 2, 46, 0, 2, 0, 0, 0, 0, []), some (.iastore, 47, 0, 0, 0, 0, 0, 0, []), some (.iload_n 3, 48, 0, 3, 0, 0, 0, 0, [])]
def am_t_X9_cold_3 : List (Option am_I) := [some (.ireturn, 49, 0, 0, 0, 0, 0, 0, [])]
def am_t_X9_cold : am_T := [am_t_X9_cold_0, am_t_X9_cold_1, am_t_X9_cold_2, am_t_X9_cold_3]
theorem am_q_X9_cold_0 : am_okQ (am_ok1 am_mt yX9_cold.cls yX9_cold.name cX9_cold 4 (some .int)) 0 am_t_X9_cold_0 = true := by decide +kernel
theorem am_q_X9_cold_1 : am_okQ (am_ok1 am_mt yX9_cold.cls yX9_cold.name cX9_cold 4 (some .int)) 1 am_t_X9_cold_1 = true := by decide +kernel
theorem am_q_X9_cold_2 : am_okQ (am_ok1 am_mt yX9_cold.cls yX9_cold.name cX9_cold 4 (some .int)) 2 am_t_X9_cold_2 = true := by decide +kernel
theorem am_q_X9_cold_3 : am_okQ (am_ok1 am_mt yX9_cold.cls yX9_cold.name cX9_cold 4 (some .int)) 3 am_t_X9_cold_3 = true := by decide +kernel
theorem am_q_X9_cold : am_okT (am_ok1 am_mt yX9_cold.cls yX9_cold.name cX9_cold 4 (some .int)) 0 am_t_X9_cold = true := am_okT_c am_q_X9_cold_0 (am_okT_c am_q_X9_cold_1 (am_okT_c am_q_X9_cold_2 (am_okT_c am_q_X9_cold_3 (rfl))))
def am_m_X9_cold : am_M := (yX9_cold, cX9_cold, 4, (some .int), 1, 1131, 90, 1129, 1130, 2, am_t_X9_cold)
theorem am_k_X9_cold : am_okM am_mt am_m_X9_cold := ⟨by decide +kernel, am_q_X9_cold⟩
def am_t_X9_isMotion_0 : List (Option am_I) := [some (.iload_n 1, 1, 0, 1, 0, 0, 0, 0, []), some (.i2l, 2, 0, 0, 0, 0, 0, 0, []), some (.lconst 0, 3, 0, 0, 0, 0, 0, 0, []), some (.aload_n 0, 4, 0, 0, 0, 0, 0, 0, []), some (.getfield 7, 7, 0, 9, 0, 899, 0, 0, []), none, none, some (.iconst 0, 8, 0, 0, 0, 0, 0, 0, []), some (.iaload, 9, 0, 0, 0, 0, 0, 0, []), some (.iconst 1, 10, 0, 0, 0, 0, 1, 0, []), some (.isub, 11, 0, 0, 0, 0, 0, 0, []), some (.i2l, 12, 0, 0, 0, 0, 0, 0, []), some (.invokestatic 48, 15, 0, 137, 3, 966, 0, 0, []), none, none, some (.ireturn, 16, 1, 0, 0, 0, 0, 0, [])]
def am_t_X9_isMotion : am_T := [am_t_X9_isMotion_0]
theorem am_q_X9_isMotion_0 : am_okQ (am_ok1 am_mt yX9_isMotion.cls yX9_isMotion.name cX9_isMotion 2 (some .boolean)) 0 am_t_X9_isMotion_0 = true := by decide +kernel
theorem am_q_X9_isMotion : am_okT (am_ok1 am_mt yX9_isMotion.cls yX9_isMotion.name cX9_isMotion 2 (some .boolean)) 0 am_t_X9_isMotion = true := am_okT_c am_q_X9_isMotion_0 (rfl)
def am_m_X9_isMotion : am_M := (yX9_isMotion, cX9_isMotion, 2, (some .boolean), 1, 1140, 90, 1139, 58, 1, am_t_X9_isMotion)
theorem am_k_X9_isMotion : am_okM am_mt am_m_X9_isMotion := ⟨by decide +kernel, am_q_X9_isMotion⟩
def am_t_X9_needs_0 : List (Option am_I) := [some (.aload_n 0, 1, 0, 0, 0, 0, 0, 0, []), some (.iload_n 1, 2, 0, 1, 0, 0, 0, 0, []), some (.invokevirtual 189, 5, 9, 182, 1, 1137, 0, 0, []), none, none, some (.ifCond .eq 15, 8, 20, 0, 0, 0, 0, 0, []), none, none, some (.iload_n 2, 9, 0, 2, 0, 0, 0, 0, []), some (.i2l, 10, 0, 0, 0, 0, 0, 0, []), some (.lconst 0, 11, 0, 0, 0, 0, 0, 0, []), some (.ldc2_w 192, 14, 0, 0, 0, 1141, 0, 99, []), none, none, some (.invokestatic 48, 17, 0, 137, 3, 966, 0, 0, []), none]
def am_t_X9_needs_1 : List (Option am_I) := [none, some (.ifCond .ne 6, 20, 23, 0, 0, 0, 0, 0, []), none, none, some (.ldc 58, 22, 0, 0, 0, 970, (-1000001), 0, []), none, some (.ireturn, 23, 0, 0, 0, 0, 0, 0, []), some (.aload_n 0, 24, 0, 0, 0, 0, 0, 0, []), some (.invokevirtual 181, 27, 9, 165, 0, 1087, 0, 0, []), none, none, some (.aload_n 0, 28, 0, 0, 0, 0, 0, 0, []), some (.getfield 7, 31, 0, 9, 0, 899, 0, 0, []), none, none, some (.iconst 5, 32, 0, 0, 0, 0, 5, 0, [])]
def am_t_X9_needs_2 : List (Option am_I) := [some (.iload_n 1, 33, 0, 1, 0, 0, 0, 0, []), some (.iadd, 34, 0, 0, 0, 0, 0, 0, []), some (.iaload, 35, 0, 0, 0, 0, 0, 0, []), some (.istore_n 3, 36, 0, 3, 0, 0, 0, 0, []), some (.aload_n 0, 37, 0, 0, 0, 0, 0, 0, []), some (.getfield 7, 40, 0, 9, 0, 899, 0, 0, []), none, none, some (.iconst 5, 41, 0, 0, 0, 0, 5, 0, []), some (.iload_n 1, 42, 0, 1, 0, 0, 0, 0, []), some (.iadd, 43, 0, 0, 0, 0, 0, 0, []), some (.iload_n 2, 44, 0, 2, 0, 0, 0, 0, []), some (.iastore, 45, 0, 0, 0, 0, 0, 0, []), some (.iload_n 3, 46, 0, 3, 0, 0, 0, 0, []), some (.ireturn, 47, 0, 0, 0, 0, 0, 0, [])]
def am_t_X9_needs : am_T := [am_t_X9_needs_0, am_t_X9_needs_1, am_t_X9_needs_2]
theorem am_q_X9_needs_0 : am_okQ (am_ok1 am_mt yX9_needs.cls yX9_needs.name cX9_needs 4 (some .int)) 0 am_t_X9_needs_0 = true := by decide +kernel
theorem am_q_X9_needs_1 : am_okQ (am_ok1 am_mt yX9_needs.cls yX9_needs.name cX9_needs 4 (some .int)) 1 am_t_X9_needs_1 = true := by decide +kernel
theorem am_q_X9_needs_2 : am_okQ (am_ok1 am_mt yX9_needs.cls yX9_needs.name cX9_needs 4 (some .int)) 2 am_t_X9_needs_2 = true := by decide +kernel
theorem am_q_X9_needs : am_okT (am_ok1 am_mt yX9_needs.cls yX9_needs.name cX9_needs 4 (some .int)) 0 am_t_X9_needs = true := am_okT_c am_q_X9_needs_0 (am_okT_c am_q_X9_needs_1 (am_okT_c am_q_X9_needs_2 (rfl)))
def am_m_X9_needs : am_M := (yX9_needs, cX9_needs, 4, (some .int), 1, 1136, 90, 1134, 1135, 2, am_t_X9_needs)
theorem am_k_X9_needs : am_okM am_mt am_m_X9_needs := ⟨by decide +kernel, am_q_X9_needs⟩
def am_t_X9_member_0 : List (Option am_I) := [some (.aload_n 0, 1, 0, 0, 0, 0, 0, 0, []), some (.iload_n 1, 2, 0, 1, 0, 0, 0, 0, []), some (.invokevirtual 184, 5, 9, 167, 1, 1124, 0, 0, []), none, none, some (.ifCond .ne 6, 8, 11, 0, 0, 0, 0, 0, []), none, none, some (.ldc 58, 10, 0, 0, 0, 970, (-1000001), 0, []), none, some (.ireturn, 11, 0, 0, 0, 0, 0, 0, []), some (.iload_n 2, 12, 0, 2, 0, 0, 0, 0, []), some (.tableswitch 80 0 4 #[36, 46, 56, 66, 73], 48, 92, 0, 0, 0, 0, 0, [(0, 48), (1, 58), (2, 68), (3, 78), (4, 85)]), none, none, none]
def am_t_X9_member_1 : List (Option am_I) := [none, none, none, none, none, none, none, none, none, none, none, none, none, none, none, none]
def am_t_X9_member_2 : List (Option am_I) := [none, none, none, none, none, none, none, none, none, none, none, none, none, none, none, none]
def am_t_X9_member_3 : List (Option am_I) := [some (.aload_n 0, 49, 0, 0, 0, 0, 0, 0, []), some (.getfield 7, 52, 0, 9, 0, 899, 0, 0, []), none, none, some (.bipush 13, 54, 0, 0, 0, 0, 13, 0, []), none, some (.iload_n 1, 55, 0, 1, 0, 0, 0, 0, []), some (.iadd, 56, 0, 0, 0, 0, 0, 0, []), some (.iaload, 57, 0, 0, 0, 0, 0, 0, []), some (.ireturn, 58, 0, 0, 0, 0, 0, 0, []), some (.aload_n 0, 59, 0, 0, 0, 0, 0, 0, []), some (.getfield 7, 62, 0, 9, 0, 899, 0, 0, []), none, none, some (.bipush 17, 64, 0, 0, 0, 0, 17, 0, []), none]
def am_t_X9_member_4 : List (Option am_I) := [some (.iload_n 1, 65, 0, 1, 0, 0, 0, 0, []), some (.iadd, 66, 0, 0, 0, 0, 0, 0, []), some (.iaload, 67, 0, 0, 0, 0, 0, 0, []), some (.ireturn, 68, 0, 0, 0, 0, 0, 0, []), some (.aload_n 0, 69, 0, 0, 0, 0, 0, 0, []), some (.iconst 0, 70, 0, 0, 0, 0, 0, 0, []), some (.invokevirtual 150, 73, 9, 170, 1, 1076, 0, 0, []), none, none, some (.iload_n 1, 74, 0, 1, 0, 0, 0, 0, []), some (.ishr, 75, 0, 0, 0, 0, 0, 0, []), some (.iconst 1, 76, 0, 0, 0, 0, 1, 0, []), some (.iand, 77, 0, 0, 0, 0, 0, 0, []), some (.ireturn, 78, 0, 0, 0, 0, 0, 0, []), some (.aload_n 0, 79, 0, 0, 0, 0, 0, 0, []), some (.iconst 0, 80, 0, 0, 0, 0, 0, 0, [])]
def am_t_X9_member_5 : List (Option am_I) := [some (.iload_n 1, 81, 0, 1, 0, 0, 0, 0, []), some (.invokevirtual 159, 84, 9, 171, 2, 1110, 0, 0, []), none, none, some (.ireturn, 85, 0, 0, 0, 0, 0, 0, []), some (.aload_n 0, 86, 0, 0, 0, 0, 0, 0, []), some (.iconst 0, 87, 0, 0, 0, 0, 0, 0, []), some (.iload_n 1, 88, 0, 1, 0, 0, 0, 0, []), some (.invokevirtual 147, 91, 9, 169, 2, 1080, 0, 0, []), none, none, some (.ireturn, 92, 0, 0, 0, 0, 0, 0, []), some (.ldc 58, 94, 0, 0, 0, 970, (-1000001), 0, []), none, some (.ireturn, 95, 0, 0, 0, 0, 0, 0, [])]
def am_t_X9_member : am_T := [am_t_X9_member_0, am_t_X9_member_1, am_t_X9_member_2, am_t_X9_member_3, am_t_X9_member_4, am_t_X9_member_5]
theorem am_q_X9_member_0 : am_okQ (am_ok1 am_mt yX9_member.cls yX9_member.name cX9_member 3 (some .int)) 0 am_t_X9_member_0 = true := by decide +kernel
theorem am_q_X9_member_1 : am_okQ (am_ok1 am_mt yX9_member.cls yX9_member.name cX9_member 3 (some .int)) 1 am_t_X9_member_1 = true := by decide +kernel
theorem am_q_X9_member_2 : am_okQ (am_ok1 am_mt yX9_member.cls yX9_member.name cX9_member 3 (some .int)) 2 am_t_X9_member_2 = true := by decide +kernel
theorem am_q_X9_member_3 : am_okQ (am_ok1 am_mt yX9_member.cls yX9_member.name cX9_member 3 (some .int)) 3 am_t_X9_member_3 = true := by decide +kernel
theorem am_q_X9_member_4 : am_okQ (am_ok1 am_mt yX9_member.cls yX9_member.name cX9_member 3 (some .int)) 4 am_t_X9_member_4 = true := by decide +kernel
theorem am_q_X9_member_5 : am_okQ (am_ok1 am_mt yX9_member.cls yX9_member.name cX9_member 3 (some .int)) 5 am_t_X9_member_5 = true := by decide +kernel
theorem am_q_X9_member : am_okT (am_ok1 am_mt yX9_member.cls yX9_member.name cX9_member 3 (some .int)) 0 am_t_X9_member = true := am_okT_c am_q_X9_member_0 (am_okT_c am_q_X9_member_1 (am_okT_c am_q_X9_member_2 (am_okT_c am_q_X9_member_3 (am_okT_c am_q_X9_member_4 (am_okT_c am_q_X9_member_5 (rfl))))))
def am_m_X9_member : am_M := (yX9_member, cX9_member, 3, (some .int), 1, 1145, 90, 1143, 1144, 2, am_t_X9_member)
theorem am_k_X9_member : am_okM am_mt am_m_X9_member := ⟨by decide +kernel, am_q_X9_member⟩
def am_t_X9_motion_0 : List (Option am_I) := [some (.aload_n 0, 1, 0, 0, 0, 0, 0, 0, []), some (.iload_n 1, 2, 0, 1, 0, 0, 0, 0, []), some (.invokevirtual 189, 5, 9, 182, 1, 1137, 0, 0, []), none, none, some (.ifCond .eq 14, 8, 19, 0, 0, 0, 0, 0, []), none, none, some (.aload_n 0, 9, 0, 0, 0, 0, 0, 0, []), some (.getfield 7, 12, 0, 9, 0, 899, 0, 0, []), none, none, some (.iconst 5, 13, 0, 0, 0, 0, 5, 0, []), some (.iload_n 1, 14, 0, 1, 0, 0, 0, 0, []), some (.iadd, 15, 0, 0, 0, 0, 0, 0, []), some (.iaload, 16, 0, 0, 0, 0, 0, 0, [])]
def am_t_X9_motion_1 : List (Option am_I) := [some (.goto 5, 19, 21, 0, 0, 0, 0, 0, []), none, none, some (.ldc 58, 21, 0, 0, 0, 970, (-1000001), 0, []), none, some (.ireturn, 22, 0, 0, 0, 0, 0, 0, [])]
def am_t_X9_motion : am_T := [am_t_X9_motion_0, am_t_X9_motion_1]
theorem am_q_X9_motion_0 : am_okQ (am_ok1 am_mt yX9_motion.cls yX9_motion.name cX9_motion 2 (some .int)) 0 am_t_X9_motion_0 = true := by decide +kernel
theorem am_q_X9_motion_1 : am_okQ (am_ok1 am_mt yX9_motion.cls yX9_motion.name cX9_motion 2 (some .int)) 1 am_t_X9_motion_1 = true := by decide +kernel
theorem am_q_X9_motion : am_okT (am_ok1 am_mt yX9_motion.cls yX9_motion.name cX9_motion 2 (some .int)) 0 am_t_X9_motion = true := am_okT_c am_q_X9_motion_0 (am_okT_c am_q_X9_motion_1 (rfl))
def am_m_X9_motion : am_M := (yX9_motion, cX9_motion, 2, (some .int), 1, 1149, 90, 1147, 1148, 1, am_t_X9_motion)
theorem am_k_X9_motion : am_okM am_mt am_m_X9_motion := ⟨by decide +kernel, am_q_X9_motion⟩
def am_t_X9_weight_0 : List (Option am_I) := [some (.aload_n 0, 1, 0, 0, 0, 0, 0, 0, []), some (.getfield 136, 4, 0, 9, 1, 900, 0, 0, []), none, none, some (.ifCond .ne 6, 7, 10, 0, 0, 0, 0, 0, []), none, none, some (.ldc 143, 9, 0, 0, 0, 1067, (-1000002), 0, []), none, some (.ireturn, 10, 0, 0, 0, 0, 0, 0, []), some (.aload_n 0, 11, 0, 0, 0, 0, 0, 0, []), some (.iload_n 1, 12, 0, 1, 0, 0, 0, 0, []), some (.invokevirtual 178, 15, 9, 178, 1, 1072, 0, 0, []), none, none, some (.ifCond .eq 12, 18, 27, 0, 0, 0, 0, 0, [])]
def am_t_X9_weight_1 : List (Option am_I) := [none, none, some (.aload_n 0, 19, 0, 0, 0, 0, 0, 0, []), some (.iconst 0, 20, 0, 0, 0, 0, 0, 0, []), some (.iload_n 1, 21, 0, 1, 0, 0, 0, 0, []), some (.invokevirtual 162, 24, 9, 172, 2, 1103, 0, 0, []), none, none, some (.goto 5, 27, 29, 0, 0, 0, 0, 0, []), none, none, some (.ldc 58, 29, 0, 0, 0, 970, (-1000001), 0, []), none, some (.ireturn, 30, 0, 0, 0, 0, 0, 0, [])]
def am_t_X9_weight : am_T := [am_t_X9_weight_0, am_t_X9_weight_1]
theorem am_q_X9_weight_0 : am_okQ (am_ok1 am_mt yX9_weight.cls yX9_weight.name cX9_weight 2 (some .int)) 0 am_t_X9_weight_0 = true := by decide +kernel
theorem am_q_X9_weight_1 : am_okQ (am_ok1 am_mt yX9_weight.cls yX9_weight.name cX9_weight 2 (some .int)) 1 am_t_X9_weight_1 = true := by decide +kernel
theorem am_q_X9_weight : am_okT (am_ok1 am_mt yX9_weight.cls yX9_weight.name cX9_weight 2 (some .int)) 0 am_t_X9_weight = true := am_okT_c am_q_X9_weight_0 (am_okT_c am_q_X9_weight_1 (rfl))
def am_m_X9_weight : am_M := (yX9_weight, cX9_weight, 2, (some .int), 1, 1153, 90, 1151, 1152, 1, am_t_X9_weight)
theorem am_k_X9_weight : am_okM am_mt am_m_X9_weight := ⟨by decide +kernel, am_q_X9_weight⟩
def am_t_X9_layTried_0 : List (Option am_I) := [some (.aload_n 0, 1, 0, 0, 0, 0, 0, 0, []), some (.iconst 0, 2, 0, 0, 0, 0, 0, 0, []), some (.sipush 567, 5, 0, 0, 0, 0, 567, 0, []), none, none, some (.invokevirtual 132, 8, 9, 164, 2, 1055, 0, 0, []), none, none, some (.return_, 9, 0, 0, 0, 0, 0, 0, [])]
def am_t_X9_layTried : am_T := [am_t_X9_layTried_0]
theorem am_q_X9_layTried_0 : am_okQ (am_ok1 am_mt yX9_layTried.cls yX9_layTried.name cX9_layTried 1 none) 0 am_t_X9_layTried_0 = true := by decide +kernel
theorem am_q_X9_layTried : am_okT (am_ok1 am_mt yX9_layTried.cls yX9_layTried.name cX9_layTried 1 none) 0 am_t_X9_layTried = true := am_okT_c am_q_X9_layTried_0 (rfl)
def am_m_X9_layTried : am_M := (yX9_layTried, cX9_layTried, 1, none, 1, 1187, 90, 1186, 61, 0, am_t_X9_layTried)
theorem am_k_X9_layTried : am_okM am_mt am_m_X9_layTried := ⟨by decide +kernel, am_q_X9_layTried⟩
def am_t_X9_tellPart_0 : List (Option am_I) := [some (.iload_n 0, 1, 0, 0, 0, 0, 0, 0, []), some (.istore_n 3, 2, 0, 3, 0, 0, 0, 0, []), some (.iload_n 1, 3, 0, 1, 0, 0, 0, 0, []), some (.istore 4, 5, 0, 4, 0, 0, 0, 0, []), none, some (.iload 4, 7, 0, 4, 0, 0, 0, 0, []), none, some (.ifCond .eq 19, 10, 26, 0, 0, 0, 0, 0, []), none, none, some (.iload_n 3, 11, 0, 3, 0, 0, 0, 0, []), some (.iload 4, 13, 0, 4, 0, 0, 0, 0, []), none, some (.irem, 14, 0, 0, 0, 0, 0, 0, []), some (.istore 5, 16, 0, 5, 0, 0, 0, 0, []), none]
def am_t_X9_tellPart_1 : List (Option am_I) := [some (.iload 4, 18, 0, 4, 0, 0, 0, 0, []), none, some (.istore_n 3, 19, 0, 3, 0, 0, 0, 0, []), some (.iload 5, 21, 0, 5, 0, 0, 0, 0, []), none, some (.istore 4, 23, 0, 4, 0, 0, 0, 0, []), none, some (.goto (-18), 26, 5, 0, 0, 0, 0, 0, []), none, none, some (.iload_n 2, 27, 0, 2, 0, 0, 0, 0, []), some (.ifCond .ne 9, 30, 36, 0, 0, 0, 0, 0, []), none, none, some (.iload_n 0, 31, 0, 0, 0, 0, 0, 0, []), some (.iload_n 3, 32, 0, 3, 0, 0, 0, 0, [])]
def am_t_X9_tellPart_2 : List (Option am_I) := [some (.idiv, 33, 0, 0, 0, 0, 0, 0, []), some (.goto 6, 36, 39, 0, 0, 0, 0, 0, []), none, none, some (.iload_n 1, 37, 0, 1, 0, 0, 0, 0, []), some (.iload_n 3, 38, 0, 3, 0, 0, 0, 0, []), some (.idiv, 39, 0, 0, 0, 0, 0, 0, []), some (.ireturn, 40, 0, 0, 0, 0, 0, 0, [])]
def am_t_X9_tellPart : am_T := [am_t_X9_tellPart_0, am_t_X9_tellPart_1, am_t_X9_tellPart_2]
theorem am_q_X9_tellPart_0 : am_okQ (am_ok1 am_mt yX9_tellPart.cls yX9_tellPart.name cX9_tellPart 6 (some .int)) 0 am_t_X9_tellPart_0 = true := by decide +kernel
theorem am_q_X9_tellPart_1 : am_okQ (am_ok1 am_mt yX9_tellPart.cls yX9_tellPart.name cX9_tellPart 6 (some .int)) 1 am_t_X9_tellPart_1 = true := by decide +kernel
theorem am_q_X9_tellPart_2 : am_okQ (am_ok1 am_mt yX9_tellPart.cls yX9_tellPart.name cX9_tellPart 6 (some .int)) 2 am_t_X9_tellPart_2 = true := by decide +kernel
theorem am_q_X9_tellPart : am_okT (am_ok1 am_mt yX9_tellPart.cls yX9_tellPart.name cX9_tellPart 6 (some .int)) 0 am_t_X9_tellPart = true := am_okT_c am_q_X9_tellPart_0 (am_okT_c am_q_X9_tellPart_1 (am_okT_c am_q_X9_tellPart_2 (rfl)))
def am_m_X9_tellPart : am_M := (yX9_tellPart, cX9_tellPart, 6, (some .int), 0, 1163, 90, 1162, 0, 3, am_t_X9_tellPart)
theorem am_k_X9_tellPart : am_okM am_mt am_m_X9_tellPart := ⟨by decide +kernel, am_q_X9_tellPart⟩
def am_t_X9_factorial_0 : List (Option am_I) := [some (.iconst 1, 1, 0, 0, 0, 0, 1, 0, []), some (.istore_n 1, 2, 0, 1, 0, 0, 0, 0, []), some (.iconst 2, 3, 0, 0, 0, 0, 2, 0, []), some (.istore_n 2, 4, 0, 2, 0, 0, 0, 0, []), some (.iload_n 2, 5, 0, 2, 0, 0, 0, 0, []), some (.iload_n 0, 6, 0, 0, 0, 0, 0, 0, []), some (.if_icmp .gt 13, 9, 19, 0, 0, 0, 0, 0, []), none, none, some (.iload_n 1, 10, 0, 1, 0, 0, 0, 0, []), some (.iload_n 2, 11, 0, 2, 0, 0, 0, 0, []), some (.imul, 12, 0, 0, 0, 0, 0, 0, []), some (.istore_n 1, 13, 0, 1, 0, 0, 0, 0, []), some (.iinc 2 1, 16, 0, 2, 0, 0, 1, 0, []), none, none]
def am_t_X9_factorial_1 : List (Option am_I) := [some (.goto (-12), 19, 4, 0, 0, 0, 0, 0, []), none, none, some (.iload_n 1, 20, 0, 1, 0, 0, 0, 0, []), some (.ireturn, 21, 0, 0, 0, 0, 0, 0, [])]
def am_t_X9_factorial : am_T := [am_t_X9_factorial_0, am_t_X9_factorial_1]
theorem am_q_X9_factorial_0 : am_okQ (am_ok1 am_mt yX9_factorial.cls yX9_factorial.name cX9_factorial 3 (some .int)) 0 am_t_X9_factorial_0 = true := by decide +kernel
theorem am_q_X9_factorial_1 : am_okQ (am_ok1 am_mt yX9_factorial.cls yX9_factorial.name cX9_factorial 3 (some .int)) 1 am_t_X9_factorial_1 = true := by decide +kernel
theorem am_q_X9_factorial : am_okT (am_ok1 am_mt yX9_factorial.cls yX9_factorial.name cX9_factorial 3 (some .int)) 0 am_t_X9_factorial = true := am_okT_c am_q_X9_factorial_0 (am_okT_c am_q_X9_factorial_1 (rfl))
def am_m_X9_factorial : am_M := (yX9_factorial, cX9_factorial, 3, (some .int), 0, 1160, 90, 1159, 0, 1, am_t_X9_factorial)
theorem am_k_X9_factorial : am_okM am_mt am_m_X9_factorial := ⟨by decide +kernel, am_q_X9_factorial⟩
def am_t_X9_power_0 : List (Option am_I) := [some (.aload_n 0, 1, 0, 0, 0, 0, 0, 0, []), some (.iload_n 1, 2, 0, 1, 0, 0, 0, 0, []), some (.invokevirtual 184, 5, 9, 167, 1, 1124, 0, 0, []), none, none, some (.ifCond .eq 13, 8, 18, 0, 0, 0, 0, 0, []), none, none, some (.iload_n 2, 9, 0, 2, 0, 0, 0, 0, []), some (.i2l, 10, 0, 0, 0, 0, 0, 0, []), some (.lconst 0, 11, 0, 0, 0, 0, 0, 0, []), some (.lconst 1, 12, 0, 0, 0, 0, 0, 1, []), some (.invokestatic 48, 15, 0, 137, 3, 966, 0, 0, []), none, none, some (.ifCond .ne 6, 18, 21, 0, 0, 0, 0, 0, [])]
def am_t_X9_power_1 : List (Option am_I) := [none, none, some (.ldc 58, 20, 0, 0, 0, 970, (-1000001), 0, []), none, some (.ireturn, 21, 0, 0, 0, 0, 0, 0, []), some (.aload_n 0, 22, 0, 0, 0, 0, 0, 0, []), some (.iconst 0, 23, 0, 0, 0, 0, 0, 0, []), some (.invokevirtual 150, 26, 9, 170, 1, 1076, 0, 0, []), none, none, some (.istore_n 3, 27, 0, 3, 0, 0, 0, 0, []), some (.aload_n 0, 28, 0, 0, 0, 0, 0, 0, []), some (.getfield 7, 31, 0, 9, 0, 899, 0, 0, []), none, none, some (.iconst 5, 32, 0, 0, 0, 0, 5, 0, [])]
def am_t_X9_power_2 : List (Option am_I) := [some (.aload_n 0, 33, 0, 0, 0, 0, 0, 0, []), some (.iconst 0, 34, 0, 0, 0, 0, 0, 0, []), some (.invokevirtual 165, 37, 9, 173, 1, 1095, 0, 0, []), none, none, some (.iadd, 38, 0, 0, 0, 0, 0, 0, []), some (.iaload, 39, 0, 0, 0, 0, 0, 0, []), some (.istore 4, 41, 0, 4, 0, 0, 0, 0, []), none, some (.iload_n 3, 42, 0, 3, 0, 0, 0, 0, []), some (.iload_n 1, 43, 0, 1, 0, 0, 0, 0, []), some (.invokestatic 156, 46, 0, 138, 2, 1107, 0, 0, []), none, none, some (.ifCond .ne 5, 49, 51, 0, 0, 0, 0, 0, []), none]
def am_t_X9_power_3 : List (Option am_I) := [none, some (.iload_n 2, 50, 0, 2, 0, 0, 0, 0, []), some (.ireturn, 51, 0, 0, 0, 0, 0, 0, []), some (.iconst 0, 52, 0, 0, 0, 0, 0, 0, []), some (.istore 5, 54, 0, 5, 0, 0, 0, 0, []), none, some (.iconst 0, 55, 0, 0, 0, 0, 0, 0, []), some (.istore 6, 57, 0, 6, 0, 0, 0, 0, []), none, some (.iload 6, 59, 0, 6, 0, 0, 0, 0, []), none, some (.bipush 16, 61, 0, 0, 0, 0, 16, 0, []), none, some (.if_icmp .ge 102, 64, 163, 0, 0, 0, 0, 0, []), none, none]
def am_t_X9_power_4 : List (Option am_I) := [some (.iload 6, 66, 0, 6, 0, 0, 0, 0, []), none, some (.iload_n 3, 67, 0, 3, 0, 0, 0, 0, []), some (.iconst (-1), 68, 0, 0, 0, 0, (-1), 0, []), some (.ixor, 69, 0, 0, 0, 0, 0, 0, []), some (.iand, 70, 0, 0, 0, 0, 0, 0, []), some (.ifCond .ne 47, 73, 117, 0, 0, 0, 0, 0, []), none, none, some (.iload 6, 75, 0, 6, 0, 0, 0, 0, []), none, some (.iload_n 1, 76, 0, 1, 0, 0, 0, 0, []), some (.invokestatic 156, 79, 0, 138, 2, 1107, 0, 0, []), none, none, some (.ifCond .ne 38, 82, 117, 0, 0, 0, 0, 0, [])]
def am_t_X9_power_5 : List (Option am_I) := [none, none, some (.aload_n 0, 83, 0, 0, 0, 0, 0, 0, []), some (.iconst 0, 84, 0, 0, 0, 0, 0, 0, []), some (.iload 6, 86, 0, 6, 0, 0, 0, 0, []), none, some (.invokevirtual 162, 89, 9, 172, 2, 1103, 0, 0, []), none, none, some (.iload 4, 91, 0, 4, 0, 0, 0, 0, []), none, some (.if_icmp .ge 26, 94, 117, 0, 0, 0, 0, 0, []), none, none, some (.aload_n 0, 95, 0, 0, 0, 0, 0, 0, []), some (.iconst 0, 96, 0, 0, 0, 0, 0, 0, [])]
def am_t_X9_power_6 : List (Option am_I) := [some (.iload 6, 98, 0, 6, 0, 0, 0, 0, []), none, some (.invokevirtual 162, 101, 9, 172, 2, 1103, 0, 0, []), none, none, some (.aload_n 0, 102, 0, 0, 0, 0, 0, 0, []), some (.iconst 0, 103, 0, 0, 0, 0, 0, 0, []), some (.iload_n 1, 104, 0, 1, 0, 0, 0, 0, []), some (.invokevirtual 159, 107, 9, 171, 2, 1110, 0, 0, []), none, none, some (.iadd, 108, 0, 0, 0, 0, 0, 0, []), some (.iload 4, 110, 0, 4, 0, 0, 0, 0, []), none, some (.if_icmp .lt 7, 113, 117, 0, 0, 0, 0, 0, []), none]
def am_t_X9_power_7 : List (Option am_I) := [none, some (.iconst 1, 114, 0, 0, 0, 0, 1, 0, []), some (.goto 4, 117, 118, 0, 0, 0, 0, 0, []), none, none, some (.iconst 0, 118, 0, 0, 0, 0, 0, 0, []), some (.istore 7, 120, 0, 7, 0, 0, 0, 0, []), none, some (.iload 5, 122, 0, 5, 0, 0, 0, 0, []), none, some (.iload 7, 124, 0, 7, 0, 0, 0, 0, []), none, some (.ifCond .eq 29, 127, 153, 0, 0, 0, 0, 0, []), none, none, some (.iload 6, 129, 0, 6, 0, 0, 0, 0, [])]
def am_t_X9_power_8 : List (Option am_I) := [none, some (.invokestatic 153, 132, 0, 140, 1, 1114, 0, 0, []), none, none, some (.invokestatic 194, 135, 0, 189, 1, 1158, 0, 0, []), none, none, some (.iload_n 3, 136, 0, 3, 0, 0, 0, 0, []), some (.iload 6, 138, 0, 6, 0, 0, 0, 0, []), none, some (.iconst (-1), 139, 0, 0, 0, 0, (-1), 0, []), some (.ixor, 140, 0, 0, 0, 0, 0, 0, []), some (.iand, 141, 0, 0, 0, 0, 0, 0, []), some (.invokestatic 153, 144, 0, 140, 1, 1114, 0, 0, []), none, none]
def am_t_X9_power_9 : List (Option am_I) := [some (.iconst 1, 145, 0, 0, 0, 0, 1, 0, []), some (.isub, 146, 0, 0, 0, 0, 0, 0, []), some (.invokestatic 194, 149, 0, 189, 1, 1158, 0, 0, []), none, none, some (.imul, 150, 0, 0, 0, 0, 0, 0, []), some (.goto 4, 153, 154, 0, 0, 0, 0, 0, []), none, none, some (.iconst 0, 154, 0, 0, 0, 0, 0, 0, []), some (.iadd, 155, 0, 0, 0, 0, 0, 0, []), some (.istore 5, 157, 0, 5, 0, 0, 0, 0, []), none, some (.iinc 6 1, 160, 0, 6, 0, 0, 1, 0, []), none, none]
def am_t_X9_power_10 : List (Option am_I) := [some (.goto (-103), 163, 57, 0, 0, 0, 0, 0, []), none, none, some (.iload 5, 165, 0, 5, 0, 0, 0, 0, []), none, some (.iload_n 3, 166, 0, 3, 0, 0, 0, 0, []), some (.invokestatic 153, 169, 0, 140, 1, 1114, 0, 0, []), none, none, some (.invokestatic 194, 172, 0, 189, 1, 1158, 0, 0, []), none, none, some (.iload_n 2, 173, 0, 2, 0, 0, 0, 0, []), some (.invokestatic 197, 176, 0, 188, 3, 1161, 0, 0, []), none, none]
def am_t_X9_power_11 : List (Option am_I) := [some (.ireturn, 177, 0, 0, 0, 0, 0, 0, [])]
def am_t_X9_power : am_T := [am_t_X9_power_0, am_t_X9_power_1, am_t_X9_power_2, am_t_X9_power_3, am_t_X9_power_4, am_t_X9_power_5, am_t_X9_power_6, am_t_X9_power_7, am_t_X9_power_8, am_t_X9_power_9, am_t_X9_power_10, am_t_X9_power_11]
theorem am_q_X9_power_0 : am_okQ (am_ok1 am_mt yX9_power.cls yX9_power.name cX9_power 8 (some .int)) 0 am_t_X9_power_0 = true := by decide +kernel
theorem am_q_X9_power_1 : am_okQ (am_ok1 am_mt yX9_power.cls yX9_power.name cX9_power 8 (some .int)) 1 am_t_X9_power_1 = true := by decide +kernel
theorem am_q_X9_power_2 : am_okQ (am_ok1 am_mt yX9_power.cls yX9_power.name cX9_power 8 (some .int)) 2 am_t_X9_power_2 = true := by decide +kernel
theorem am_q_X9_power_3 : am_okQ (am_ok1 am_mt yX9_power.cls yX9_power.name cX9_power 8 (some .int)) 3 am_t_X9_power_3 = true := by decide +kernel
theorem am_q_X9_power_4 : am_okQ (am_ok1 am_mt yX9_power.cls yX9_power.name cX9_power 8 (some .int)) 4 am_t_X9_power_4 = true := by decide +kernel
theorem am_q_X9_power_5 : am_okQ (am_ok1 am_mt yX9_power.cls yX9_power.name cX9_power 8 (some .int)) 5 am_t_X9_power_5 = true := by decide +kernel
theorem am_q_X9_power_6 : am_okQ (am_ok1 am_mt yX9_power.cls yX9_power.name cX9_power 8 (some .int)) 6 am_t_X9_power_6 = true := by decide +kernel
theorem am_q_X9_power_7 : am_okQ (am_ok1 am_mt yX9_power.cls yX9_power.name cX9_power 8 (some .int)) 7 am_t_X9_power_7 = true := by decide +kernel
theorem am_q_X9_power_8 : am_okQ (am_ok1 am_mt yX9_power.cls yX9_power.name cX9_power 8 (some .int)) 8 am_t_X9_power_8 = true := by decide +kernel
theorem am_q_X9_power_9 : am_okQ (am_ok1 am_mt yX9_power.cls yX9_power.name cX9_power 8 (some .int)) 9 am_t_X9_power_9 = true := by decide +kernel
theorem am_q_X9_power_10 : am_okQ (am_ok1 am_mt yX9_power.cls yX9_power.name cX9_power 8 (some .int)) 10 am_t_X9_power_10 = true := by decide +kernel
theorem am_q_X9_power_11 : am_okQ (am_ok1 am_mt yX9_power.cls yX9_power.name cX9_power 8 (some .int)) 11 am_t_X9_power_11 = true := by decide +kernel
theorem am_q_X9_power : am_okT (am_ok1 am_mt yX9_power.cls yX9_power.name cX9_power 8 (some .int)) 0 am_t_X9_power = true := am_okT_c am_q_X9_power_0 (am_okT_c am_q_X9_power_1 (am_okT_c am_q_X9_power_2 (am_okT_c am_q_X9_power_3 (am_okT_c am_q_X9_power_4 (am_okT_c am_q_X9_power_5 (am_okT_c am_q_X9_power_6 (am_okT_c am_q_X9_power_7 (am_okT_c am_q_X9_power_8 (am_okT_c am_q_X9_power_9 (am_okT_c am_q_X9_power_10 (am_okT_c am_q_X9_power_11 (rfl))))))))))))
def am_m_X9_power : am_M := (yX9_power, cX9_power, 8, (some .int), 1, 1157, 90, 1155, 1156, 2, am_t_X9_power)
theorem am_k_X9_power : am_okM am_mt am_m_X9_power := ⟨by decide +kernel, am_q_X9_power⟩
def am_ms7 : List am_M := [am_m_X9_costOf, am_m_X9_canSpeak, am_m_X9_weighs, am_m_X9_weightOf, am_m_X9_motionOf, am_m_X9_isCarried, am_m_X9_passFor, am_m_X9_pass, am_m_X9_passAll, am_m_X9_areMembers, am_m_X9_speak, am_m_X9_lozenge, am_m_X9_cold, am_m_X9_isMotion, am_m_X9_needs, am_m_X9_member, am_m_X9_motion, am_m_X9_weight, am_m_X9_layTried, am_m_X9_tellPart, am_m_X9_factorial, am_m_X9_power]
theorem am_ms7_ok : ∀ M ∈ am_ms7, am_okM am_mt M := List.forall_mem_cons.mpr ⟨am_k_X9_costOf, List.forall_mem_cons.mpr ⟨am_k_X9_canSpeak, List.forall_mem_cons.mpr ⟨am_k_X9_weighs, List.forall_mem_cons.mpr ⟨am_k_X9_weightOf, List.forall_mem_cons.mpr ⟨am_k_X9_motionOf, List.forall_mem_cons.mpr ⟨am_k_X9_isCarried, List.forall_mem_cons.mpr ⟨am_k_X9_passFor, List.forall_mem_cons.mpr ⟨am_k_X9_pass, List.forall_mem_cons.mpr ⟨am_k_X9_passAll, List.forall_mem_cons.mpr ⟨am_k_X9_areMembers, List.forall_mem_cons.mpr ⟨am_k_X9_speak, List.forall_mem_cons.mpr ⟨am_k_X9_lozenge, List.forall_mem_cons.mpr ⟨am_k_X9_cold, List.forall_mem_cons.mpr ⟨am_k_X9_isMotion, List.forall_mem_cons.mpr ⟨am_k_X9_needs, List.forall_mem_cons.mpr ⟨am_k_X9_member, List.forall_mem_cons.mpr ⟨am_k_X9_motion, List.forall_mem_cons.mpr ⟨am_k_X9_weight, List.forall_mem_cons.mpr ⟨am_k_X9_layTried, List.forall_mem_cons.mpr ⟨am_k_X9_tellPart, List.forall_mem_cons.mpr ⟨am_k_X9_factorial, List.forall_mem_cons.mpr ⟨am_k_X9_power, fun _ h => absurd h List.not_mem_nil⟩⟩⟩⟩⟩⟩⟩⟩⟩⟩⟩⟩⟩⟩⟩⟩⟩⟩⟩⟩⟩⟩
end
section
def am_t_X9_fewest_0 : List (Option am_I) := [some (.aload_n 0, 1, 0, 0, 0, 0, 0, 0, []), some (.getfield 136, 4, 0, 9, 1, 900, 0, 0, []), none, none, some (.ifCond .ne 6, 7, 10, 0, 0, 0, 0, 0, []), none, none, some (.ldc 143, 9, 0, 0, 0, 1067, (-1000002), 0, []), none, some (.ireturn, 10, 0, 0, 0, 0, 0, 0, []), some (.iload_n 1, 11, 0, 1, 0, 0, 0, 0, []), some (.i2l, 12, 0, 0, 0, 0, 0, 0, []), some (.lconst 0, 13, 0, 0, 0, 0, 0, 0, []), some (.lconst 1, 14, 0, 0, 0, 0, 0, 1, []), some (.invokestatic 48, 17, 0, 137, 3, 966, 0, 0, []), none]
def am_t_X9_fewest_1 : List (Option am_I) := [none, some (.ifCond .ne 6, 20, 23, 0, 0, 0, 0, 0, []), none, none, some (.ldc 58, 22, 0, 0, 0, 970, (-1000001), 0, []), none, some (.ireturn, 23, 0, 0, 0, 0, 0, 0, []), some (.ldc 200, 25, 0, 0, 0, 1168, (-1000000), 0, []), none, some (.istore_n 2, 26, 0, 2, 0, 0, 0, 0, []), some (.iconst 0, 27, 0, 0, 0, 0, 0, 0, []), some (.istore_n 3, 28, 0, 3, 0, 0, 0, 0, []), some (.iload_n 3, 29, 0, 3, 0, 0, 0, 0, []), some (.bipush 16, 31, 0, 0, 0, 0, 16, 0, []), none, some (.if_icmp .ge 65, 34, 96, 0, 0, 0, 0, 0, [])]
def am_t_X9_fewest_2 : List (Option am_I) := [none, none, some (.iload_n 3, 35, 0, 3, 0, 0, 0, 0, []), some (.aload_n 0, 36, 0, 0, 0, 0, 0, 0, []), some (.iconst 0, 37, 0, 0, 0, 0, 0, 0, []), some (.invokevirtual 150, 40, 9, 170, 1, 1076, 0, 0, []), none, none, some (.iconst (-1), 41, 0, 0, 0, 0, (-1), 0, []), some (.ixor, 42, 0, 0, 0, 0, 0, 0, []), some (.iand, 43, 0, 0, 0, 0, 0, 0, []), some (.ifCond .ne 16, 46, 59, 0, 0, 0, 0, 0, []), none, none, some (.aload_n 0, 47, 0, 0, 0, 0, 0, 0, []), some (.iconst 0, 48, 0, 0, 0, 0, 0, 0, [])]
def am_t_X9_fewest_3 : List (Option am_I) := [some (.iload_n 3, 49, 0, 3, 0, 0, 0, 0, []), some (.invokevirtual 201, 52, 9, 174, 2, 1169, 0, 0, []), none, none, some (.ifCond .eq 7, 55, 59, 0, 0, 0, 0, 0, []), none, none, some (.iconst 1, 56, 0, 0, 0, 0, 1, 0, []), some (.goto 4, 59, 60, 0, 0, 0, 0, 0, []), none, none, some (.iconst 0, 60, 0, 0, 0, 0, 0, 0, []), some (.istore 4, 62, 0, 4, 0, 0, 0, 0, []), none, some (.iload 4, 64, 0, 4, 0, 0, 0, 0, []), none]
def am_t_X9_fewest_4 : List (Option am_I) := [some (.ifCond .eq 24, 67, 88, 0, 0, 0, 0, 0, []), none, none, some (.iload_n 2, 68, 0, 2, 0, 0, 0, 0, []), some (.ldc 200, 70, 0, 0, 0, 1168, (-1000000), 0, []), none, some (.if_icmp .eq 14, 73, 84, 0, 0, 0, 0, 0, []), none, none, some (.iload_n 3, 74, 0, 3, 0, 0, 0, 0, []), some (.invokestatic 153, 77, 0, 140, 1, 1114, 0, 0, []), none, none, some (.iload_n 2, 78, 0, 2, 0, 0, 0, 0, []), some (.invokestatic 153, 81, 0, 140, 1, 1114, 0, 0, []), none]
def am_t_X9_fewest_5 : List (Option am_I) := [none, some (.if_icmp .ge 7, 84, 88, 0, 0, 0, 0, 0, []), none, none, some (.iload_n 3, 85, 0, 3, 0, 0, 0, 0, []), some (.goto 4, 88, 89, 0, 0, 0, 0, 0, []), none, none, some (.iload_n 2, 89, 0, 2, 0, 0, 0, 0, []), some (.istore_n 2, 90, 0, 2, 0, 0, 0, 0, []), some (.iinc 3 1, 93, 0, 3, 0, 0, 1, 0, []), none, none, some (.goto (-65), 96, 28, 0, 0, 0, 0, 0, []), none, none]
def am_t_X9_fewest_6 : List (Option am_I) := [some (.iload_n 2, 97, 0, 2, 0, 0, 0, 0, []), some (.ldc 200, 99, 0, 0, 0, 1168, (-1000000), 0, []), none, some (.if_icmp .eq 8, 102, 107, 0, 0, 0, 0, 0, []), none, none, some (.iload_n 1, 103, 0, 1, 0, 0, 0, 0, []), some (.iconst 1, 104, 0, 0, 0, 0, 1, 0, []), some (.if_icmp .ne 7, 107, 111, 0, 0, 0, 0, 0, []), none, none, some (.iload_n 2, 108, 0, 2, 0, 0, 0, 0, []), some (.goto 7, 111, 115, 0, 0, 0, 0, 0, []), none, none, some (.iload_n 2, 112, 0, 2, 0, 0, 0, 0, [])]
def am_t_X9_fewest_7 : List (Option am_I) := [some (.invokestatic 153, 115, 0, 140, 1, 1114, 0, 0, []), none, none, some (.ireturn, 116, 0, 0, 0, 0, 0, 0, [])]
def am_t_X9_fewest : am_T := [am_t_X9_fewest_0, am_t_X9_fewest_1, am_t_X9_fewest_2, am_t_X9_fewest_3, am_t_X9_fewest_4, am_t_X9_fewest_5, am_t_X9_fewest_6, am_t_X9_fewest_7]
theorem am_q_X9_fewest_0 : am_okQ (am_ok1 am_mt yX9_fewest.cls yX9_fewest.name cX9_fewest 5 (some .int)) 0 am_t_X9_fewest_0 = true := by decide +kernel
theorem am_q_X9_fewest_1 : am_okQ (am_ok1 am_mt yX9_fewest.cls yX9_fewest.name cX9_fewest 5 (some .int)) 1 am_t_X9_fewest_1 = true := by decide +kernel
theorem am_q_X9_fewest_2 : am_okQ (am_ok1 am_mt yX9_fewest.cls yX9_fewest.name cX9_fewest 5 (some .int)) 2 am_t_X9_fewest_2 = true := by decide +kernel
theorem am_q_X9_fewest_3 : am_okQ (am_ok1 am_mt yX9_fewest.cls yX9_fewest.name cX9_fewest 5 (some .int)) 3 am_t_X9_fewest_3 = true := by decide +kernel
theorem am_q_X9_fewest_4 : am_okQ (am_ok1 am_mt yX9_fewest.cls yX9_fewest.name cX9_fewest 5 (some .int)) 4 am_t_X9_fewest_4 = true := by decide +kernel
theorem am_q_X9_fewest_5 : am_okQ (am_ok1 am_mt yX9_fewest.cls yX9_fewest.name cX9_fewest 5 (some .int)) 5 am_t_X9_fewest_5 = true := by decide +kernel
theorem am_q_X9_fewest_6 : am_okQ (am_ok1 am_mt yX9_fewest.cls yX9_fewest.name cX9_fewest 5 (some .int)) 6 am_t_X9_fewest_6 = true := by decide +kernel
theorem am_q_X9_fewest_7 : am_okQ (am_ok1 am_mt yX9_fewest.cls yX9_fewest.name cX9_fewest 5 (some .int)) 7 am_t_X9_fewest_7 = true := by decide +kernel
theorem am_q_X9_fewest : am_okT (am_ok1 am_mt yX9_fewest.cls yX9_fewest.name cX9_fewest 5 (some .int)) 0 am_t_X9_fewest = true := am_okT_c am_q_X9_fewest_0 (am_okT_c am_q_X9_fewest_1 (am_okT_c am_q_X9_fewest_2 (am_okT_c am_q_X9_fewest_3 (am_okT_c am_q_X9_fewest_4 (am_okT_c am_q_X9_fewest_5 (am_okT_c am_q_X9_fewest_6 (am_okT_c am_q_X9_fewest_7 (rfl))))))))
def am_m_X9_fewest : am_M := (yX9_fewest, cX9_fewest, 5, (some .int), 1, 1167, 90, 1165, 1166, 1, am_t_X9_fewest)
theorem am_k_X9_fewest : am_okM am_mt am_m_X9_fewest := ⟨by decide +kernel, am_q_X9_fewest⟩
def am_t_X9_nextSet_0 : List (Option am_I) := [some (.iload_n 2, 1, 0, 2, 0, 0, 0, 0, []), some (.istore_n 3, 2, 0, 3, 0, 0, 0, 0, []), some (.iload_n 3, 3, 0, 3, 0, 0, 0, 0, []), some (.bipush 16, 5, 0, 0, 0, 0, 16, 0, []), none, some (.if_icmp .ge 28, 8, 33, 0, 0, 0, 0, 0, []), none, none, some (.iload_n 3, 9, 0, 3, 0, 0, 0, 0, []), some (.aload_n 0, 10, 0, 0, 0, 0, 0, 0, []), some (.sipush 567, 13, 0, 0, 0, 0, 567, 0, []), none, none, some (.bipush 21, 15, 0, 0, 0, 0, 21, 0, []), none, some (.iload_n 1, 16, 0, 1, 0, 0, 0, 0, [])]
def am_t_X9_nextSet_1 : List (Option am_I) := [some (.imul, 17, 0, 0, 0, 0, 0, 0, []), some (.iadd, 18, 0, 0, 0, 0, 0, 0, []), some (.invokevirtual 150, 21, 9, 170, 1, 1076, 0, 0, []), none, none, some (.iconst (-1), 22, 0, 0, 0, 0, (-1), 0, []), some (.ixor, 23, 0, 0, 0, 0, 0, 0, []), some (.iand, 24, 0, 0, 0, 0, 0, 0, []), some (.ifCond .eq 9, 27, 33, 0, 0, 0, 0, 0, []), none, none, some (.iinc 3 1, 30, 0, 3, 0, 0, 1, 0, []), none, none, some (.goto (-28), 33, 2, 0, 0, 0, 0, 0, []), none]
def am_t_X9_nextSet_2 : List (Option am_I) := [none, some (.iload_n 3, 34, 0, 3, 0, 0, 0, 0, []), some (.ireturn, 35, 0, 0, 0, 0, 0, 0, [])]
def am_t_X9_nextSet : am_T := [am_t_X9_nextSet_0, am_t_X9_nextSet_1, am_t_X9_nextSet_2]
theorem am_q_X9_nextSet_0 : am_okQ (am_ok1 am_mt yX9_nextSet.cls yX9_nextSet.name cX9_nextSet 4 (some .int)) 0 am_t_X9_nextSet_0 = true := by decide +kernel
theorem am_q_X9_nextSet_1 : am_okQ (am_ok1 am_mt yX9_nextSet.cls yX9_nextSet.name cX9_nextSet 4 (some .int)) 1 am_t_X9_nextSet_1 = true := by decide +kernel
theorem am_q_X9_nextSet_2 : am_okQ (am_ok1 am_mt yX9_nextSet.cls yX9_nextSet.name cX9_nextSet 4 (some .int)) 2 am_t_X9_nextSet_2 = true := by decide +kernel
theorem am_q_X9_nextSet : am_okT (am_ok1 am_mt yX9_nextSet.cls yX9_nextSet.name cX9_nextSet 4 (some .int)) 0 am_t_X9_nextSet = true := am_okT_c am_q_X9_nextSet_0 (am_okT_c am_q_X9_nextSet_1 (am_okT_c am_q_X9_nextSet_2 (rfl)))
def am_m_X9_nextSet : am_M := (yX9_nextSet, cX9_nextSet, 4, (some .int), 1, 1191, 90, 1190, 62, 2, am_t_X9_nextSet)
theorem am_k_X9_nextSet : am_okM am_mt am_m_X9_nextSet := ⟨by decide +kernel, am_q_X9_nextSet⟩
def am_t_X9_mostCarried_0 : List (Option am_I) := [some (.iconst (-1), 1, 0, 0, 0, 0, (-1), 0, []), some (.istore_n 2, 2, 0, 2, 0, 0, 0, 0, []), some (.iconst 0, 3, 0, 0, 0, 0, 0, 0, []), some (.istore_n 3, 4, 0, 3, 0, 0, 0, 0, []), some (.aload_n 0, 5, 0, 0, 0, 0, 0, 0, []), some (.invokevirtual 204, 8, 9, 187, 0, 1184, 0, 0, []), none, none, some (.aload_n 0, 9, 0, 0, 0, 0, 0, 0, []), some (.getfield 7, 12, 0, 9, 0, 899, 0, 0, []), none, none, some (.sipush 571, 15, 0, 0, 0, 0, 571, 0, []), none, none, some (.iconst 0, 16, 0, 0, 0, 0, 0, 0, [])]
def am_t_X9_mostCarried_1 : List (Option am_I) := [some (.iastore, 17, 0, 0, 0, 0, 0, 0, []), some (.aload_n 0, 18, 0, 0, 0, 0, 0, 0, []), some (.getfield 32, 21, 0, 9, 16, 915, 0, 0, []), none, none, some (.iconst 0, 22, 0, 0, 0, 0, 0, 0, []), some (.iconst (-1), 23, 0, 0, 0, 0, (-1), 0, []), some (.iastore, 24, 0, 0, 0, 0, 0, 0, []), some (.iload_n 3, 25, 0, 3, 0, 0, 0, 0, []), some (.ifCond .lt 207, 28, 232, 0, 0, 0, 0, 0, []), none, none, some (.aload_n 0, 29, 0, 0, 0, 0, 0, 0, []), some (.getfield 7, 32, 0, 9, 0, 899, 0, 0, []), none, none]
def am_t_X9_mostCarried_2 : List (Option am_I) := [some (.sipush 567, 35, 0, 0, 0, 0, 567, 0, []), none, none, some (.bipush 21, 37, 0, 0, 0, 0, 21, 0, []), none, some (.iload_n 3, 38, 0, 3, 0, 0, 0, 0, []), some (.imul, 39, 0, 0, 0, 0, 0, 0, []), some (.iadd, 40, 0, 0, 0, 0, 0, 0, []), some (.iconst 4, 41, 0, 0, 0, 0, 4, 0, []), some (.iadd, 42, 0, 0, 0, 0, 0, 0, []), some (.iaload, 43, 0, 0, 0, 0, 0, 0, []), some (.iload_n 1, 44, 0, 1, 0, 0, 0, 0, []), some (.iadd, 45, 0, 0, 0, 0, 0, 0, []), some (.iload_n 3, 46, 0, 3, 0, 0, 0, 0, []), some (.isub, 47, 0, 0, 0, 0, 0, 0, []), some (.iload_n 2, 48, 0, 2, 0, 0, 0, 0, [])]
def am_t_X9_mostCarried_3 : List (Option am_I) := [some (.if_icmp .gt 7, 51, 55, 0, 0, 0, 0, 0, []), none, none, some (.iconst 1, 52, 0, 0, 0, 0, 1, 0, []), some (.goto 4, 55, 56, 0, 0, 0, 0, 0, []), none, none, some (.iconst 0, 56, 0, 0, 0, 0, 0, 0, []), some (.istore 4, 58, 0, 4, 0, 0, 0, 0, []), none, some (.iload_n 3, 59, 0, 3, 0, 0, 0, 0, []), some (.iload_n 1, 60, 0, 1, 0, 0, 0, 0, []), some (.if_icmp .eq 8, 63, 68, 0, 0, 0, 0, 0, []), none, none, some (.iload 4, 65, 0, 4, 0, 0, 0, 0, [])]
def am_t_X9_mostCarried_4 : List (Option am_I) := [none, some (.ifCond .eq 8, 68, 73, 0, 0, 0, 0, 0, []), none, none, some (.bipush 16, 70, 0, 0, 0, 0, 16, 0, []), none, some (.goto 16, 73, 86, 0, 0, 0, 0, 0, []), none, none, some (.aload_n 0, 74, 0, 0, 0, 0, 0, 0, []), some (.iload_n 3, 75, 0, 3, 0, 0, 0, 0, []), some (.aload_n 0, 76, 0, 0, 0, 0, 0, 0, []), some (.getfield 32, 79, 0, 9, 16, 915, 0, 0, []), none, none, some (.iload_n 3, 80, 0, 3, 0, 0, 0, 0, [])]
def am_t_X9_mostCarried_5 : List (Option am_I) := [some (.iaload, 81, 0, 0, 0, 0, 0, 0, []), some (.iconst 1, 82, 0, 0, 0, 0, 1, 0, []), some (.iadd, 83, 0, 0, 0, 0, 0, 0, []), some (.invokevirtual 207, 86, 9, 192, 2, 1188, 0, 0, []), none, none, some (.istore 5, 88, 0, 5, 0, 0, 0, 0, []), none, some (.iload_n 3, 89, 0, 3, 0, 0, 0, 0, []), some (.iload_n 1, 90, 0, 1, 0, 0, 0, 0, []), some (.if_icmp .ne 67, 93, 157, 0, 0, 0, 0, 0, []), none, none, some (.aload_n 0, 94, 0, 0, 0, 0, 0, 0, []), some (.getfield 7, 97, 0, 9, 0, 899, 0, 0, []), none]
def am_t_X9_mostCarried_6 : List (Option am_I) := [none, some (.sipush 567, 100, 0, 0, 0, 0, 567, 0, []), none, none, some (.bipush 21, 102, 0, 0, 0, 0, 21, 0, []), none, some (.iload_n 1, 103, 0, 1, 0, 0, 0, 0, []), some (.imul, 104, 0, 0, 0, 0, 0, 0, []), some (.iadd, 105, 0, 0, 0, 0, 0, 0, []), some (.iconst 4, 106, 0, 0, 0, 0, 4, 0, []), some (.iadd, 107, 0, 0, 0, 0, 0, 0, []), some (.iaload, 108, 0, 0, 0, 0, 0, 0, []), some (.iload_n 2, 109, 0, 2, 0, 0, 0, 0, []), some (.if_icmp .le 48, 112, 157, 0, 0, 0, 0, 0, []), none, none]
def am_t_X9_mostCarried_7 : List (Option am_I) := [some (.aload_n 0, 113, 0, 0, 0, 0, 0, 0, []), some (.getfield 7, 116, 0, 9, 0, 899, 0, 0, []), none, none, some (.sipush 567, 119, 0, 0, 0, 0, 567, 0, []), none, none, some (.bipush 21, 121, 0, 0, 0, 0, 21, 0, []), none, some (.iload_n 1, 122, 0, 1, 0, 0, 0, 0, []), some (.imul, 123, 0, 0, 0, 0, 0, 0, []), some (.iadd, 124, 0, 0, 0, 0, 0, 0, []), some (.iconst 4, 125, 0, 0, 0, 0, 4, 0, []), some (.iadd, 126, 0, 0, 0, 0, 0, 0, []), some (.iaload, 127, 0, 0, 0, 0, 0, 0, []), some (.istore_n 2, 128, 0, 2, 0, 0, 0, 0, [])]
def am_t_X9_mostCarried_8 : List (Option am_I) := [some (.iconst 0, 129, 0, 0, 0, 0, 0, 0, []), some (.istore 6, 131, 0, 6, 0, 0, 0, 0, []), none, some (.iload 6, 133, 0, 6, 0, 0, 0, 0, []), none, some (.iload_n 1, 134, 0, 1, 0, 0, 0, 0, []), some (.if_icmp .ge 23, 137, 157, 0, 0, 0, 0, 0, []), none, none, some (.aload_n 0, 138, 0, 0, 0, 0, 0, 0, []), some (.getfield 35, 141, 0, 9, 17, 916, 0, 0, []), none, none, some (.iload 6, 143, 0, 6, 0, 0, 0, 0, []), none, some (.aload_n 0, 144, 0, 0, 0, 0, 0, 0, [])]
def am_t_X9_mostCarried_9 : List (Option am_I) := [some (.getfield 32, 147, 0, 9, 16, 915, 0, 0, []), none, none, some (.iload 6, 149, 0, 6, 0, 0, 0, 0, []), none, some (.iaload, 150, 0, 0, 0, 0, 0, 0, []), some (.iastore, 151, 0, 0, 0, 0, 0, 0, []), some (.iinc 6 1, 154, 0, 6, 0, 0, 1, 0, []), none, none, some (.goto (-23), 157, 131, 0, 0, 0, 0, 0, []), none, none, some (.iload 5, 159, 0, 5, 0, 0, 0, 0, []), none, some (.bipush 16, 161, 0, 0, 0, 0, 16, 0, [])]
def am_t_X9_mostCarried_10 : List (Option am_I) := [none, some (.if_icmp .ne 9, 164, 170, 0, 0, 0, 0, 0, []), none, none, some (.iinc 3 (-1), 167, 0, 3, 0, 0, (-1), 0, []), none, none, some (.goto 62, 170, 229, 0, 0, 0, 0, 0, []), none, none, some (.aload_n 0, 171, 0, 0, 0, 0, 0, 0, []), some (.getfield 32, 174, 0, 9, 16, 915, 0, 0, []), none, none, some (.iload_n 3, 175, 0, 3, 0, 0, 0, 0, []), some (.iload 5, 177, 0, 5, 0, 0, 0, 0, [])]
def am_t_X9_mostCarried_11 : List (Option am_I) := [none, some (.iastore, 178, 0, 0, 0, 0, 0, 0, []), some (.aload_n 0, 179, 0, 0, 0, 0, 0, 0, []), some (.sipush 567, 182, 0, 0, 0, 0, 567, 0, []), none, none, some (.bipush 21, 184, 0, 0, 0, 0, 21, 0, []), none, some (.iload_n 3, 185, 0, 3, 0, 0, 0, 0, []), some (.imul, 186, 0, 0, 0, 0, 0, 0, []), some (.iadd, 187, 0, 0, 0, 0, 0, 0, []), some (.sipush 567, 190, 0, 0, 0, 0, 567, 0, []), none, none, some (.bipush 21, 192, 0, 0, 0, 0, 21, 0, []), none]
def am_t_X9_mostCarried_12 : List (Option am_I) := [some (.iload_n 3, 193, 0, 3, 0, 0, 0, 0, []), some (.imul, 194, 0, 0, 0, 0, 0, 0, []), some (.iadd, 195, 0, 0, 0, 0, 0, 0, []), some (.bipush 21, 197, 0, 0, 0, 0, 21, 0, []), none, some (.iadd, 198, 0, 0, 0, 0, 0, 0, []), some (.invokevirtual 132, 201, 9, 164, 2, 1055, 0, 0, []), none, none, some (.aload_n 0, 202, 0, 0, 0, 0, 0, 0, []), some (.sipush 567, 205, 0, 0, 0, 0, 567, 0, []), none, none, some (.bipush 21, 207, 0, 0, 0, 0, 21, 0, []), none, some (.iload_n 3, 208, 0, 3, 0, 0, 0, 0, [])]
def am_t_X9_mostCarried_13 : List (Option am_I) := [some (.imul, 209, 0, 0, 0, 0, 0, 0, []), some (.iadd, 210, 0, 0, 0, 0, 0, 0, []), some (.bipush 21, 212, 0, 0, 0, 0, 21, 0, []), none, some (.iadd, 213, 0, 0, 0, 0, 0, 0, []), some (.iload 5, 215, 0, 5, 0, 0, 0, 0, []), none, some (.invokevirtual 175, 218, 9, 176, 2, 1091, 0, 0, []), none, none, some (.pop, 219, 0, 0, 0, 0, 0, 0, []), some (.iinc 3 1, 222, 0, 3, 0, 0, 1, 0, []), none, none, some (.aload_n 0, 223, 0, 0, 0, 0, 0, 0, []), some (.getfield 32, 226, 0, 9, 16, 915, 0, 0, [])]
def am_t_X9_mostCarried_14 : List (Option am_I) := [none, none, some (.iload_n 3, 227, 0, 3, 0, 0, 0, 0, []), some (.iconst (-1), 228, 0, 0, 0, 0, (-1), 0, []), some (.iastore, 229, 0, 0, 0, 0, 0, 0, []), some (.goto (-205), 232, 24, 0, 0, 0, 0, 0, []), none, none, some (.iload_n 2, 233, 0, 2, 0, 0, 0, 0, []), some (.ireturn, 234, 0, 0, 0, 0, 0, 0, [])]
def am_t_X9_mostCarried : am_T := [am_t_X9_mostCarried_0, am_t_X9_mostCarried_1, am_t_X9_mostCarried_2, am_t_X9_mostCarried_3, am_t_X9_mostCarried_4, am_t_X9_mostCarried_5, am_t_X9_mostCarried_6, am_t_X9_mostCarried_7, am_t_X9_mostCarried_8, am_t_X9_mostCarried_9, am_t_X9_mostCarried_10, am_t_X9_mostCarried_11, am_t_X9_mostCarried_12, am_t_X9_mostCarried_13, am_t_X9_mostCarried_14]
theorem am_q_X9_mostCarried_0 : am_okQ (am_ok1 am_mt yX9_mostCarried.cls yX9_mostCarried.name cX9_mostCarried 7 (some .int)) 0 am_t_X9_mostCarried_0 = true := by decide +kernel
theorem am_q_X9_mostCarried_1 : am_okQ (am_ok1 am_mt yX9_mostCarried.cls yX9_mostCarried.name cX9_mostCarried 7 (some .int)) 1 am_t_X9_mostCarried_1 = true := by decide +kernel
theorem am_q_X9_mostCarried_2 : am_okQ (am_ok1 am_mt yX9_mostCarried.cls yX9_mostCarried.name cX9_mostCarried 7 (some .int)) 2 am_t_X9_mostCarried_2 = true := by decide +kernel
theorem am_q_X9_mostCarried_3 : am_okQ (am_ok1 am_mt yX9_mostCarried.cls yX9_mostCarried.name cX9_mostCarried 7 (some .int)) 3 am_t_X9_mostCarried_3 = true := by decide +kernel
theorem am_q_X9_mostCarried_4 : am_okQ (am_ok1 am_mt yX9_mostCarried.cls yX9_mostCarried.name cX9_mostCarried 7 (some .int)) 4 am_t_X9_mostCarried_4 = true := by decide +kernel
theorem am_q_X9_mostCarried_5 : am_okQ (am_ok1 am_mt yX9_mostCarried.cls yX9_mostCarried.name cX9_mostCarried 7 (some .int)) 5 am_t_X9_mostCarried_5 = true := by decide +kernel
theorem am_q_X9_mostCarried_6 : am_okQ (am_ok1 am_mt yX9_mostCarried.cls yX9_mostCarried.name cX9_mostCarried 7 (some .int)) 6 am_t_X9_mostCarried_6 = true := by decide +kernel
theorem am_q_X9_mostCarried_7 : am_okQ (am_ok1 am_mt yX9_mostCarried.cls yX9_mostCarried.name cX9_mostCarried 7 (some .int)) 7 am_t_X9_mostCarried_7 = true := by decide +kernel
theorem am_q_X9_mostCarried_8 : am_okQ (am_ok1 am_mt yX9_mostCarried.cls yX9_mostCarried.name cX9_mostCarried 7 (some .int)) 8 am_t_X9_mostCarried_8 = true := by decide +kernel
theorem am_q_X9_mostCarried_9 : am_okQ (am_ok1 am_mt yX9_mostCarried.cls yX9_mostCarried.name cX9_mostCarried 7 (some .int)) 9 am_t_X9_mostCarried_9 = true := by decide +kernel
theorem am_q_X9_mostCarried_10 : am_okQ (am_ok1 am_mt yX9_mostCarried.cls yX9_mostCarried.name cX9_mostCarried 7 (some .int)) 10 am_t_X9_mostCarried_10 = true := by decide +kernel
theorem am_q_X9_mostCarried_11 : am_okQ (am_ok1 am_mt yX9_mostCarried.cls yX9_mostCarried.name cX9_mostCarried 7 (some .int)) 11 am_t_X9_mostCarried_11 = true := by decide +kernel
theorem am_q_X9_mostCarried_12 : am_okQ (am_ok1 am_mt yX9_mostCarried.cls yX9_mostCarried.name cX9_mostCarried 7 (some .int)) 12 am_t_X9_mostCarried_12 = true := by decide +kernel
theorem am_q_X9_mostCarried_13 : am_okQ (am_ok1 am_mt yX9_mostCarried.cls yX9_mostCarried.name cX9_mostCarried 7 (some .int)) 13 am_t_X9_mostCarried_13 = true := by decide +kernel
theorem am_q_X9_mostCarried_14 : am_okQ (am_ok1 am_mt yX9_mostCarried.cls yX9_mostCarried.name cX9_mostCarried 7 (some .int)) 14 am_t_X9_mostCarried_14 = true := by decide +kernel
theorem am_q_X9_mostCarried : am_okT (am_ok1 am_mt yX9_mostCarried.cls yX9_mostCarried.name cX9_mostCarried 7 (some .int)) 0 am_t_X9_mostCarried = true := am_okT_c am_q_X9_mostCarried_0 (am_okT_c am_q_X9_mostCarried_1 (am_okT_c am_q_X9_mostCarried_2 (am_okT_c am_q_X9_mostCarried_3 (am_okT_c am_q_X9_mostCarried_4 (am_okT_c am_q_X9_mostCarried_5 (am_okT_c am_q_X9_mostCarried_6 (am_okT_c am_q_X9_mostCarried_7 (am_okT_c am_q_X9_mostCarried_8 (am_okT_c am_q_X9_mostCarried_9 (am_okT_c am_q_X9_mostCarried_10 (am_okT_c am_q_X9_mostCarried_11 (am_okT_c am_q_X9_mostCarried_12 (am_okT_c am_q_X9_mostCarried_13 (am_okT_c am_q_X9_mostCarried_14 (rfl)))))))))))))))
def am_m_X9_mostCarried : am_M := (yX9_mostCarried, cX9_mostCarried, 7, (some .int), 1, 1183, 90, 1182, 60, 1, am_t_X9_mostCarried)
theorem am_k_X9_mostCarried : am_okM am_mt am_m_X9_mostCarried := ⟨by decide +kernel, am_q_X9_mostCarried⟩
def am_t_X9_plan_0 : List (Option am_I) := [some (.aload_n 0, 1, 0, 0, 0, 0, 0, 0, []), some (.getfield 136, 4, 0, 9, 1, 900, 0, 0, []), none, none, some (.ifCond .ne 6, 7, 10, 0, 0, 0, 0, 0, []), none, none, some (.ldc 143, 9, 0, 0, 0, 1067, (-1000002), 0, []), none, some (.ireturn, 10, 0, 0, 0, 0, 0, 0, []), some (.iload_n 1, 11, 0, 1, 0, 0, 0, 0, []), some (.i2l, 12, 0, 0, 0, 0, 0, 0, []), some (.lconst 1, 13, 0, 0, 0, 0, 0, 1, []), some (.ldc2_w 210, 16, 0, 0, 0, 1177, 0, 4, []), none, none]
def am_t_X9_plan_1 : List (Option am_I) := [some (.invokestatic 48, 19, 0, 137, 3, 966, 0, 0, []), none, none, some (.ifCond .eq 17, 22, 36, 0, 0, 0, 0, 0, []), none, none, some (.iload_n 2, 23, 0, 2, 0, 0, 0, 0, []), some (.i2l, 24, 0, 0, 0, 0, 0, 0, []), some (.ldc2_w 212, 27, 0, 0, 0, 1178, 0, (-1), []), none, none, some (.ldc2_w 214, 30, 0, 0, 0, 1179, 0, 3, []), none, none, some (.invokestatic 48, 33, 0, 137, 3, 966, 0, 0, []), none]
def am_t_X9_plan_2 : List (Option am_I) := [none, some (.ifCond .ne 6, 36, 39, 0, 0, 0, 0, 0, []), none, none, some (.ldc 58, 38, 0, 0, 0, 970, (-1000001), 0, []), none, some (.ireturn, 39, 0, 0, 0, 0, 0, 0, []), some (.aload_n 0, 40, 0, 0, 0, 0, 0, 0, []), some (.iload_n 1, 41, 0, 1, 0, 0, 0, 0, []), some (.invokevirtual 216, 44, 9, 193, 1, 1180, 0, 0, []), none, none, some (.istore_n 3, 45, 0, 3, 0, 0, 0, 0, []), some (.iload_n 2, 46, 0, 2, 0, 0, 0, 0, []), some (.ifCond .ge 7, 49, 53, 0, 0, 0, 0, 0, []), none]
def am_t_X9_plan_3 : List (Option am_I) := [none, some (.iload_n 3, 50, 0, 3, 0, 0, 0, 0, []), some (.goto 19, 53, 69, 0, 0, 0, 0, 0, []), none, none, some (.iload_n 2, 54, 0, 2, 0, 0, 0, 0, []), some (.iload_n 1, 55, 0, 1, 0, 0, 0, 0, []), some (.if_icmp .ge 12, 58, 67, 0, 0, 0, 0, 0, []), none, none, some (.aload_n 0, 59, 0, 0, 0, 0, 0, 0, []), some (.getfield 35, 62, 0, 9, 17, 916, 0, 0, []), none, none, some (.iload_n 2, 63, 0, 2, 0, 0, 0, 0, []), some (.iaload, 64, 0, 0, 0, 0, 0, 0, [])]
def am_t_X9_plan_4 : List (Option am_I) := [some (.goto 5, 67, 69, 0, 0, 0, 0, 0, []), none, none, some (.ldc 200, 69, 0, 0, 0, 1168, (-1000000), 0, []), none, some (.ireturn, 70, 0, 0, 0, 0, 0, 0, [])]
def am_t_X9_plan : am_T := [am_t_X9_plan_0, am_t_X9_plan_1, am_t_X9_plan_2, am_t_X9_plan_3, am_t_X9_plan_4]
theorem am_q_X9_plan_0 : am_okQ (am_ok1 am_mt yX9_plan.cls yX9_plan.name cX9_plan 4 (some .int)) 0 am_t_X9_plan_0 = true := by decide +kernel
theorem am_q_X9_plan_1 : am_okQ (am_ok1 am_mt yX9_plan.cls yX9_plan.name cX9_plan 4 (some .int)) 1 am_t_X9_plan_1 = true := by decide +kernel
theorem am_q_X9_plan_2 : am_okQ (am_ok1 am_mt yX9_plan.cls yX9_plan.name cX9_plan 4 (some .int)) 2 am_t_X9_plan_2 = true := by decide +kernel
theorem am_q_X9_plan_3 : am_okQ (am_ok1 am_mt yX9_plan.cls yX9_plan.name cX9_plan 4 (some .int)) 3 am_t_X9_plan_3 = true := by decide +kernel
theorem am_q_X9_plan_4 : am_okQ (am_ok1 am_mt yX9_plan.cls yX9_plan.name cX9_plan 4 (some .int)) 4 am_t_X9_plan_4 = true := by decide +kernel
theorem am_q_X9_plan : am_okT (am_ok1 am_mt yX9_plan.cls yX9_plan.name cX9_plan 4 (some .int)) 0 am_t_X9_plan = true := am_okT_c am_q_X9_plan_0 (am_okT_c am_q_X9_plan_1 (am_okT_c am_q_X9_plan_2 (am_okT_c am_q_X9_plan_3 (am_okT_c am_q_X9_plan_4 (rfl)))))
def am_m_X9_plan : am_M := (yX9_plan, cX9_plan, 4, (some .int), 1, 1176, 90, 1174, 1175, 2, am_t_X9_plan)
theorem am_k_X9_plan : am_okM am_mt am_m_X9_plan := ⟨by decide +kernel, am_q_X9_plan⟩
def am_t_X9_carriedBy_0 : List (Option am_I) := [some (.iconst 0, 1, 0, 0, 0, 0, 0, 0, []), some (.istore_n 2, 2, 0, 2, 0, 0, 0, 0, []), some (.iconst 0, 3, 0, 0, 0, 0, 0, 0, []), some (.istore_n 3, 4, 0, 3, 0, 0, 0, 0, []), some (.aload_n 0, 5, 0, 0, 0, 0, 0, 0, []), some (.invokevirtual 204, 8, 9, 187, 0, 1184, 0, 0, []), none, none, some (.iconst 0, 9, 0, 0, 0, 0, 0, 0, []), some (.istore 4, 11, 0, 4, 0, 0, 0, 0, []), none, some (.iload 4, 13, 0, 4, 0, 0, 0, 0, []), none, some (.aload_n 0, 14, 0, 0, 0, 0, 0, 0, []), some (.getfield 7, 17, 0, 9, 0, 899, 0, 0, []), none]
def am_t_X9_carriedBy_1 : List (Option am_I) := [none, some (.iconst 0, 18, 0, 0, 0, 0, 0, 0, []), some (.iaload, 19, 0, 0, 0, 0, 0, 0, []), some (.if_icmp .ge 83, 22, 102, 0, 0, 0, 0, 0, []), none, none, some (.iload_n 1, 23, 0, 1, 0, 0, 0, 0, []), some (.iconst 2, 24, 0, 0, 0, 0, 2, 0, []), some (.aload_n 0, 25, 0, 0, 0, 0, 0, 0, []), some (.getfield 7, 28, 0, 9, 0, 899, 0, 0, []), none, none, some (.iconst 0, 29, 0, 0, 0, 0, 0, 0, []), some (.iaload, 30, 0, 0, 0, 0, 0, 0, []), some (.iconst 1, 31, 0, 0, 0, 0, 1, 0, []), some (.isub, 32, 0, 0, 0, 0, 0, 0, [])]
def am_t_X9_carriedBy_2 : List (Option am_I) := [some (.iload 4, 34, 0, 4, 0, 0, 0, 0, []), none, some (.isub, 35, 0, 0, 0, 0, 0, 0, []), some (.imul, 36, 0, 0, 0, 0, 0, 0, []), some (.ishr, 37, 0, 0, 0, 0, 0, 0, []), some (.iconst 3, 38, 0, 0, 0, 0, 3, 0, []), some (.iand, 39, 0, 0, 0, 0, 0, 0, []), some (.istore 5, 41, 0, 5, 0, 0, 0, 0, []), none, some (.iload 5, 43, 0, 5, 0, 0, 0, 0, []), none, some (.aload_n 0, 44, 0, 0, 0, 0, 0, 0, []), some (.getfield 7, 47, 0, 9, 0, 899, 0, 0, []), none, none, some (.iconst 0, 48, 0, 0, 0, 0, 0, 0, [])]
def am_t_X9_carriedBy_3 : List (Option am_I) := [some (.iaload, 49, 0, 0, 0, 0, 0, 0, []), some (.if_icmp .ge 12, 52, 61, 0, 0, 0, 0, 0, []), none, none, some (.iload_n 2, 53, 0, 2, 0, 0, 0, 0, []), some (.iload 5, 55, 0, 5, 0, 0, 0, 0, []), none, some (.invokestatic 156, 58, 0, 138, 2, 1107, 0, 0, []), none, none, some (.ifCond .eq 5, 61, 63, 0, 0, 0, 0, 0, []), none, none, some (.iconst (-1), 62, 0, 0, 0, 0, (-1), 0, []), some (.ireturn, 63, 0, 0, 0, 0, 0, 0, []), some (.iload_n 2, 64, 0, 2, 0, 0, 0, 0, [])]
def am_t_X9_carriedBy_4 : List (Option am_I) := [some (.iconst 1, 65, 0, 0, 0, 0, 1, 0, []), some (.iload 5, 67, 0, 5, 0, 0, 0, 0, []), none, some (.ishl, 68, 0, 0, 0, 0, 0, 0, []), some (.ior, 69, 0, 0, 0, 0, 0, 0, []), some (.istore_n 2, 70, 0, 2, 0, 0, 0, 0, []), some (.iload_n 3, 71, 0, 3, 0, 0, 0, 0, []), some (.aload_n 0, 72, 0, 0, 0, 0, 0, 0, []), some (.sipush 567, 75, 0, 0, 0, 0, 567, 0, []), none, none, some (.aload_n 0, 76, 0, 0, 0, 0, 0, 0, []), some (.sipush 567, 79, 0, 0, 0, 0, 567, 0, []), none, none, some (.invokevirtual 150, 82, 9, 170, 1, 1076, 0, 0, [])]
def am_t_X9_carriedBy_5 : List (Option am_I) := [none, none, some (.aload_n 0, 83, 0, 0, 0, 0, 0, 0, []), some (.getfield 7, 86, 0, 9, 0, 899, 0, 0, []), none, none, some (.iconst 5, 87, 0, 0, 0, 0, 5, 0, []), some (.iload 5, 89, 0, 5, 0, 0, 0, 0, []), none, some (.iadd, 90, 0, 0, 0, 0, 0, 0, []), some (.iaload, 91, 0, 0, 0, 0, 0, 0, []), some (.invokevirtual 171, 94, 9, 175, 3, 1099, 0, 0, []), none, none, some (.iadd, 95, 0, 0, 0, 0, 0, 0, []), some (.istore_n 3, 96, 0, 3, 0, 0, 0, 0, [])]
def am_t_X9_carriedBy_6 : List (Option am_I) := [some (.iinc 4 1, 99, 0, 4, 0, 0, 1, 0, []), none, none, some (.goto (-88), 102, 11, 0, 0, 0, 0, 0, []), none, none, some (.iload_n 3, 103, 0, 3, 0, 0, 0, 0, []), some (.ireturn, 104, 0, 0, 0, 0, 0, 0, [])]
def am_t_X9_carriedBy : am_T := [am_t_X9_carriedBy_0, am_t_X9_carriedBy_1, am_t_X9_carriedBy_2, am_t_X9_carriedBy_3, am_t_X9_carriedBy_4, am_t_X9_carriedBy_5, am_t_X9_carriedBy_6]
theorem am_q_X9_carriedBy_0 : am_okQ (am_ok1 am_mt yX9_carriedBy.cls yX9_carriedBy.name cX9_carriedBy 6 (some .int)) 0 am_t_X9_carriedBy_0 = true := by decide +kernel
theorem am_q_X9_carriedBy_1 : am_okQ (am_ok1 am_mt yX9_carriedBy.cls yX9_carriedBy.name cX9_carriedBy 6 (some .int)) 1 am_t_X9_carriedBy_1 = true := by decide +kernel
theorem am_q_X9_carriedBy_2 : am_okQ (am_ok1 am_mt yX9_carriedBy.cls yX9_carriedBy.name cX9_carriedBy 6 (some .int)) 2 am_t_X9_carriedBy_2 = true := by decide +kernel
theorem am_q_X9_carriedBy_3 : am_okQ (am_ok1 am_mt yX9_carriedBy.cls yX9_carriedBy.name cX9_carriedBy 6 (some .int)) 3 am_t_X9_carriedBy_3 = true := by decide +kernel
theorem am_q_X9_carriedBy_4 : am_okQ (am_ok1 am_mt yX9_carriedBy.cls yX9_carriedBy.name cX9_carriedBy 6 (some .int)) 4 am_t_X9_carriedBy_4 = true := by decide +kernel
theorem am_q_X9_carriedBy_5 : am_okQ (am_ok1 am_mt yX9_carriedBy.cls yX9_carriedBy.name cX9_carriedBy 6 (some .int)) 5 am_t_X9_carriedBy_5 = true := by decide +kernel
theorem am_q_X9_carriedBy_6 : am_okQ (am_ok1 am_mt yX9_carriedBy.cls yX9_carriedBy.name cX9_carriedBy 6 (some .int)) 6 am_t_X9_carriedBy_6 = true := by decide +kernel
theorem am_q_X9_carriedBy : am_okT (am_ok1 am_mt yX9_carriedBy.cls yX9_carriedBy.name cX9_carriedBy 6 (some .int)) 0 am_t_X9_carriedBy = true := am_okT_c am_q_X9_carriedBy_0 (am_okT_c am_q_X9_carriedBy_1 (am_okT_c am_q_X9_carriedBy_2 (am_okT_c am_q_X9_carriedBy_3 (am_okT_c am_q_X9_carriedBy_4 (am_okT_c am_q_X9_carriedBy_5 (am_okT_c am_q_X9_carriedBy_6 (rfl)))))))
def am_m_X9_carriedBy : am_M := (yX9_carriedBy, cX9_carriedBy, 6, (some .int), 1, 1199, 90, 1198, 63, 1, am_t_X9_carriedBy)
theorem am_k_X9_carriedBy : am_okM am_mt am_m_X9_carriedBy := ⟨by decide +kernel, am_q_X9_carriedBy⟩
def am_t_X9_agenda_0 : List (Option am_I) := [some (.aload_n 0, 1, 0, 0, 0, 0, 0, 0, []), some (.getfield 136, 4, 0, 9, 1, 900, 0, 0, []), none, none, some (.ifCond .ne 6, 7, 10, 0, 0, 0, 0, 0, []), none, none, some (.ldc 143, 9, 0, 0, 0, 1067, (-1000002), 0, []), none, some (.ireturn, 10, 0, 0, 0, 0, 0, 0, []), some (.iload_n 1, 11, 0, 1, 0, 0, 0, 0, []), some (.i2l, 12, 0, 0, 0, 0, 0, 0, []), some (.ldc2_w 212, 15, 0, 0, 0, 1178, 0, (-1), []), none, none, some (.ldc2_w 214, 18, 0, 0, 0, 1179, 0, 3, [])]
def am_t_X9_agenda_1 : List (Option am_I) := [none, none, some (.invokestatic 48, 21, 0, 137, 3, 966, 0, 0, []), none, none, some (.ifCond .ne 6, 24, 27, 0, 0, 0, 0, 0, []), none, none, some (.ldc 58, 26, 0, 0, 0, 970, (-1000001), 0, []), none, some (.ireturn, 27, 0, 0, 0, 0, 0, 0, []), some (.iconst (-1), 28, 0, 0, 0, 0, (-1), 0, []), some (.istore_n 2, 29, 0, 2, 0, 0, 0, 0, []), some (.iconst 0, 30, 0, 0, 0, 0, 0, 0, []), some (.istore_n 3, 31, 0, 3, 0, 0, 0, 0, []), some (.iload_n 3, 32, 0, 3, 0, 0, 0, 0, [])]
def am_t_X9_agenda_2 : List (Option am_I) := [some (.iconst 1, 33, 0, 0, 0, 0, 1, 0, []), some (.iconst 2, 34, 0, 0, 0, 0, 2, 0, []), some (.aload_n 0, 35, 0, 0, 0, 0, 0, 0, []), some (.getfield 7, 38, 0, 9, 0, 899, 0, 0, []), none, none, some (.iconst 0, 39, 0, 0, 0, 0, 0, 0, []), some (.iaload, 40, 0, 0, 0, 0, 0, 0, []), some (.imul, 41, 0, 0, 0, 0, 0, 0, []), some (.ishl, 42, 0, 0, 0, 0, 0, 0, []), some (.if_icmp .ge 69, 45, 111, 0, 0, 0, 0, 0, []), none, none, some (.aload_n 0, 46, 0, 0, 0, 0, 0, 0, []), some (.iload_n 3, 47, 0, 3, 0, 0, 0, 0, []), some (.invokevirtual 219, 50, 9, 195, 1, 1196, 0, 0, [])]
def am_t_X9_agenda_3 : List (Option am_I) := [none, none, some (.istore 4, 52, 0, 4, 0, 0, 0, 0, []), none, some (.iload 4, 54, 0, 4, 0, 0, 0, 0, []), none, some (.iload_n 2, 55, 0, 2, 0, 0, 0, 0, []), some (.if_icmp .le 50, 58, 105, 0, 0, 0, 0, 0, []), none, none, some (.iload 4, 60, 0, 4, 0, 0, 0, 0, []), none, some (.istore_n 2, 61, 0, 2, 0, 0, 0, 0, []), some (.iconst 0, 62, 0, 0, 0, 0, 0, 0, []), some (.istore 5, 64, 0, 5, 0, 0, 0, 0, []), none]
def am_t_X9_agenda_4 : List (Option am_I) := [some (.iload 5, 66, 0, 5, 0, 0, 0, 0, []), none, some (.aload_n 0, 67, 0, 0, 0, 0, 0, 0, []), some (.getfield 7, 70, 0, 9, 0, 899, 0, 0, []), none, none, some (.iconst 0, 71, 0, 0, 0, 0, 0, 0, []), some (.iaload, 72, 0, 0, 0, 0, 0, 0, []), some (.if_icmp .ge 33, 75, 105, 0, 0, 0, 0, 0, []), none, none, some (.aload_n 0, 76, 0, 0, 0, 0, 0, 0, []), some (.getfield 38, 79, 0, 9, 18, 917, 0, 0, []), none, none, some (.iload 5, 81, 0, 5, 0, 0, 0, 0, [])]
def am_t_X9_agenda_5 : List (Option am_I) := [none, some (.iload_n 3, 82, 0, 3, 0, 0, 0, 0, []), some (.iconst 2, 83, 0, 0, 0, 0, 2, 0, []), some (.aload_n 0, 84, 0, 0, 0, 0, 0, 0, []), some (.getfield 7, 87, 0, 9, 0, 899, 0, 0, []), none, none, some (.iconst 0, 88, 0, 0, 0, 0, 0, 0, []), some (.iaload, 89, 0, 0, 0, 0, 0, 0, []), some (.iconst 1, 90, 0, 0, 0, 0, 1, 0, []), some (.isub, 91, 0, 0, 0, 0, 0, 0, []), some (.iload 5, 93, 0, 5, 0, 0, 0, 0, []), none, some (.isub, 94, 0, 0, 0, 0, 0, 0, []), some (.imul, 95, 0, 0, 0, 0, 0, 0, []), some (.ishr, 96, 0, 0, 0, 0, 0, 0, [])]
def am_t_X9_agenda_6 : List (Option am_I) := [some (.iconst 3, 97, 0, 0, 0, 0, 3, 0, []), some (.iand, 98, 0, 0, 0, 0, 0, 0, []), some (.iastore, 99, 0, 0, 0, 0, 0, 0, []), some (.iinc 5 1, 102, 0, 5, 0, 0, 1, 0, []), none, none, some (.goto (-38), 105, 64, 0, 0, 0, 0, 0, []), none, none, some (.iinc 3 1, 108, 0, 3, 0, 0, 1, 0, []), none, none, some (.goto (-77), 111, 31, 0, 0, 0, 0, 0, []), none, none, some (.iload_n 1, 112, 0, 1, 0, 0, 0, 0, [])]
def am_t_X9_agenda_7 : List (Option am_I) := [some (.ifCond .ge 7, 115, 119, 0, 0, 0, 0, 0, []), none, none, some (.iload_n 2, 116, 0, 2, 0, 0, 0, 0, []), some (.goto 24, 119, 140, 0, 0, 0, 0, 0, []), none, none, some (.iload_n 1, 120, 0, 1, 0, 0, 0, 0, []), some (.aload_n 0, 121, 0, 0, 0, 0, 0, 0, []), some (.getfield 7, 124, 0, 9, 0, 899, 0, 0, []), none, none, some (.iconst 0, 125, 0, 0, 0, 0, 0, 0, []), some (.iaload, 126, 0, 0, 0, 0, 0, 0, []), some (.if_icmp .ge 12, 129, 138, 0, 0, 0, 0, 0, []), none]
def am_t_X9_agenda_8 : List (Option am_I) := [none, some (.aload_n 0, 130, 0, 0, 0, 0, 0, 0, []), some (.getfield 38, 133, 0, 9, 18, 917, 0, 0, []), none, none, some (.iload_n 1, 134, 0, 1, 0, 0, 0, 0, []), some (.iaload, 135, 0, 0, 0, 0, 0, 0, []), some (.goto 5, 138, 140, 0, 0, 0, 0, 0, []), none, none, some (.ldc 200, 140, 0, 0, 0, 1168, (-1000000), 0, []), none, some (.ireturn, 141, 0, 0, 0, 0, 0, 0, [])]
def am_t_X9_agenda : am_T := [am_t_X9_agenda_0, am_t_X9_agenda_1, am_t_X9_agenda_2, am_t_X9_agenda_3, am_t_X9_agenda_4, am_t_X9_agenda_5, am_t_X9_agenda_6, am_t_X9_agenda_7, am_t_X9_agenda_8]
theorem am_q_X9_agenda_0 : am_okQ (am_ok1 am_mt yX9_agenda.cls yX9_agenda.name cX9_agenda 6 (some .int)) 0 am_t_X9_agenda_0 = true := by decide +kernel
theorem am_q_X9_agenda_1 : am_okQ (am_ok1 am_mt yX9_agenda.cls yX9_agenda.name cX9_agenda 6 (some .int)) 1 am_t_X9_agenda_1 = true := by decide +kernel
theorem am_q_X9_agenda_2 : am_okQ (am_ok1 am_mt yX9_agenda.cls yX9_agenda.name cX9_agenda 6 (some .int)) 2 am_t_X9_agenda_2 = true := by decide +kernel
theorem am_q_X9_agenda_3 : am_okQ (am_ok1 am_mt yX9_agenda.cls yX9_agenda.name cX9_agenda 6 (some .int)) 3 am_t_X9_agenda_3 = true := by decide +kernel
theorem am_q_X9_agenda_4 : am_okQ (am_ok1 am_mt yX9_agenda.cls yX9_agenda.name cX9_agenda 6 (some .int)) 4 am_t_X9_agenda_4 = true := by decide +kernel
theorem am_q_X9_agenda_5 : am_okQ (am_ok1 am_mt yX9_agenda.cls yX9_agenda.name cX9_agenda 6 (some .int)) 5 am_t_X9_agenda_5 = true := by decide +kernel
theorem am_q_X9_agenda_6 : am_okQ (am_ok1 am_mt yX9_agenda.cls yX9_agenda.name cX9_agenda 6 (some .int)) 6 am_t_X9_agenda_6 = true := by decide +kernel
theorem am_q_X9_agenda_7 : am_okQ (am_ok1 am_mt yX9_agenda.cls yX9_agenda.name cX9_agenda 6 (some .int)) 7 am_t_X9_agenda_7 = true := by decide +kernel
theorem am_q_X9_agenda_8 : am_okQ (am_ok1 am_mt yX9_agenda.cls yX9_agenda.name cX9_agenda 6 (some .int)) 8 am_t_X9_agenda_8 = true := by decide +kernel
theorem am_q_X9_agenda : am_okT (am_ok1 am_mt yX9_agenda.cls yX9_agenda.name cX9_agenda 6 (some .int)) 0 am_t_X9_agenda = true := am_okT_c am_q_X9_agenda_0 (am_okT_c am_q_X9_agenda_1 (am_okT_c am_q_X9_agenda_2 (am_okT_c am_q_X9_agenda_3 (am_okT_c am_q_X9_agenda_4 (am_okT_c am_q_X9_agenda_5 (am_okT_c am_q_X9_agenda_6 (am_okT_c am_q_X9_agenda_7 (am_okT_c am_q_X9_agenda_8 (rfl)))))))))
def am_m_X9_agenda : am_M := (yX9_agenda, cX9_agenda, 6, (some .int), 1, 1195, 90, 1193, 1194, 1, am_t_X9_agenda)
theorem am_k_X9_agenda : am_okM am_mt am_m_X9_agenda := ⟨by decide +kernel, am_q_X9_agenda⟩
def am_t_X9_gets_0 : List (Option am_I) := [some (.iload_n 1, 1, 0, 1, 0, 0, 0, 0, []), some (.iconst 2, 2, 0, 0, 0, 0, 2, 0, []), some (.aload_n 0, 3, 0, 0, 0, 0, 0, 0, []), some (.getfield 7, 6, 0, 9, 0, 899, 0, 0, []), none, none, some (.iconst 1, 7, 0, 0, 0, 0, 1, 0, []), some (.iaload, 8, 0, 0, 0, 0, 0, 0, []), some (.iconst 1, 9, 0, 0, 0, 0, 1, 0, []), some (.isub, 10, 0, 0, 0, 0, 0, 0, []), some (.iload_n 2, 11, 0, 2, 0, 0, 0, 0, []), some (.isub, 12, 0, 0, 0, 0, 0, 0, []), some (.imul, 13, 0, 0, 0, 0, 0, 0, []), some (.ishr, 14, 0, 0, 0, 0, 0, 0, []), some (.iconst 3, 15, 0, 0, 0, 0, 3, 0, []), some (.iand, 16, 0, 0, 0, 0, 0, 0, [])]
def am_t_X9_gets_1 : List (Option am_I) := [some (.ireturn, 17, 0, 0, 0, 0, 0, 0, [])]
def am_t_X9_gets : am_T := [am_t_X9_gets_0, am_t_X9_gets_1]
theorem am_q_X9_gets_0 : am_okQ (am_ok1 am_mt yX9_gets.cls yX9_gets.name cX9_gets 3 (some .int)) 0 am_t_X9_gets_0 = true := by decide +kernel
theorem am_q_X9_gets_1 : am_okQ (am_ok1 am_mt yX9_gets.cls yX9_gets.name cX9_gets 3 (some .int)) 1 am_t_X9_gets_1 = true := by decide +kernel
theorem am_q_X9_gets : am_okT (am_ok1 am_mt yX9_gets.cls yX9_gets.name cX9_gets 3 (some .int)) 0 am_t_X9_gets = true := am_okT_c am_q_X9_gets_0 (am_okT_c am_q_X9_gets_1 (rfl))
def am_m_X9_gets : am_M := (yX9_gets, cX9_gets, 3, (some .int), 1, 1211, 90, 1210, 65, 2, am_t_X9_gets)
theorem am_k_X9_gets : am_okM am_mt am_m_X9_gets := ⟨by decide +kernel, am_q_X9_gets⟩
def am_t_X9_lozengesIn_0 : List (Option am_I) := [some (.iconst 0, 1, 0, 0, 0, 0, 0, 0, []), some (.istore_n 2, 2, 0, 2, 0, 0, 0, 0, []), some (.iconst 0, 3, 0, 0, 0, 0, 0, 0, []), some (.istore_n 3, 4, 0, 3, 0, 0, 0, 0, []), some (.iload_n 3, 5, 0, 3, 0, 0, 0, 0, []), some (.aload_n 0, 6, 0, 0, 0, 0, 0, 0, []), some (.getfield 7, 9, 0, 9, 0, 899, 0, 0, []), none, none, some (.iconst 1, 10, 0, 0, 0, 0, 1, 0, []), some (.iaload, 11, 0, 0, 0, 0, 0, 0, []), some (.if_icmp .ge 18, 14, 29, 0, 0, 0, 0, 0, []), none, none, some (.iload_n 2, 15, 0, 2, 0, 0, 0, 0, []), some (.aload_n 0, 16, 0, 0, 0, 0, 0, 0, [])]
def am_t_X9_lozengesIn_1 : List (Option am_I) := [some (.iload_n 1, 17, 0, 1, 0, 0, 0, 0, []), some (.iload_n 3, 18, 0, 3, 0, 0, 0, 0, []), some (.invokevirtual 222, 21, 9, 197, 2, 1208, 0, 0, []), none, none, some (.iadd, 22, 0, 0, 0, 0, 0, 0, []), some (.istore_n 2, 23, 0, 2, 0, 0, 0, 0, []), some (.iinc 3 1, 26, 0, 3, 0, 0, 1, 0, []), none, none, some (.goto (-22), 29, 4, 0, 0, 0, 0, 0, []), none, none, some (.iload_n 2, 30, 0, 2, 0, 0, 0, 0, []), some (.ireturn, 31, 0, 0, 0, 0, 0, 0, [])]
def am_t_X9_lozengesIn : am_T := [am_t_X9_lozengesIn_0, am_t_X9_lozengesIn_1]
theorem am_q_X9_lozengesIn_0 : am_okQ (am_ok1 am_mt yX9_lozengesIn.cls yX9_lozengesIn.name cX9_lozengesIn 4 (some .int)) 0 am_t_X9_lozengesIn_0 = true := by decide +kernel
theorem am_q_X9_lozengesIn_1 : am_okQ (am_ok1 am_mt yX9_lozengesIn.cls yX9_lozengesIn.name cX9_lozengesIn 4 (some .int)) 1 am_t_X9_lozengesIn_1 = true := by decide +kernel
theorem am_q_X9_lozengesIn : am_okT (am_ok1 am_mt yX9_lozengesIn.cls yX9_lozengesIn.name cX9_lozengesIn 4 (some .int)) 0 am_t_X9_lozengesIn = true := am_okT_c am_q_X9_lozengesIn_0 (am_okT_c am_q_X9_lozengesIn_1 (rfl))
def am_m_X9_lozengesIn : am_M := (yX9_lozengesIn, cX9_lozengesIn, 4, (some .int), 1, 1207, 90, 1206, 64, 1, am_t_X9_lozengesIn)
theorem am_k_X9_lozengesIn : am_okM am_mt am_m_X9_lozengesIn := ⟨by decide +kernel, am_q_X9_lozengesIn⟩
def am_t_X9_turns_0 : List (Option am_I) := [some (.aload_n 0, 1, 0, 0, 0, 0, 0, 0, []), some (.invokevirtual 204, 4, 9, 187, 0, 1184, 0, 0, []), none, none, some (.iconst 0, 5, 0, 0, 0, 0, 0, 0, []), some (.istore_n 2, 6, 0, 2, 0, 0, 0, 0, []), some (.iload_n 2, 7, 0, 2, 0, 0, 0, 0, []), some (.aload_n 0, 8, 0, 0, 0, 0, 0, 0, []), some (.getfield 7, 11, 0, 9, 0, 899, 0, 0, []), none, none, some (.iconst 1, 12, 0, 0, 0, 0, 1, 0, []), some (.iaload, 13, 0, 0, 0, 0, 0, 0, []), some (.if_icmp .ge 41, 16, 54, 0, 0, 0, 0, 0, []), none, none]
def am_t_X9_turns_1 : List (Option am_I) := [some (.aload_n 0, 17, 0, 0, 0, 0, 0, 0, []), some (.getfield 7, 20, 0, 9, 0, 899, 0, 0, []), none, none, some (.sipush 580, 23, 0, 0, 0, 0, 580, 0, []), none, none, some (.iload_n 2, 24, 0, 2, 0, 0, 0, 0, []), some (.iadd, 25, 0, 0, 0, 0, 0, 0, []), some (.aload_n 0, 26, 0, 0, 0, 0, 0, 0, []), some (.getfield 7, 29, 0, 9, 0, 899, 0, 0, []), none, none, some (.sipush 580, 32, 0, 0, 0, 0, 580, 0, []), none, none]
def am_t_X9_turns_2 : List (Option am_I) := [some (.iload_n 2, 33, 0, 2, 0, 0, 0, 0, []), some (.iadd, 34, 0, 0, 0, 0, 0, 0, []), some (.iaload, 35, 0, 0, 0, 0, 0, 0, []), some (.iconst 5, 36, 0, 0, 0, 0, 5, 0, []), some (.aload_n 0, 37, 0, 0, 0, 0, 0, 0, []), some (.iload_n 1, 38, 0, 1, 0, 0, 0, 0, []), some (.iload_n 2, 39, 0, 2, 0, 0, 0, 0, []), some (.invokevirtual 222, 42, 9, 197, 2, 1208, 0, 0, []), none, none, some (.imul, 43, 0, 0, 0, 0, 0, 0, []), some (.iadd, 44, 0, 0, 0, 0, 0, 0, []), some (.invokestatic 168, 47, 0, 139, 1, 1117, 0, 0, []), none, none, some (.iastore, 48, 0, 0, 0, 0, 0, 0, [])]
def am_t_X9_turns_3 : List (Option am_I) := [some (.iinc 2 1, 51, 0, 2, 0, 0, 1, 0, []), none, none, some (.goto (-45), 54, 6, 0, 0, 0, 0, 0, []), none, none, some (.aload_n 0, 55, 0, 0, 0, 0, 0, 0, []), some (.sipush 567, 58, 0, 0, 0, 0, 567, 0, []), none, none, some (.aload_n 0, 59, 0, 0, 0, 0, 0, 0, []), some (.sipush 567, 62, 0, 0, 0, 0, 567, 0, []), none, none, some (.invokevirtual 150, 65, 9, 170, 1, 1076, 0, 0, []), none]
def am_t_X9_turns_4 : List (Option am_I) := [none, some (.invokevirtual 201, 68, 9, 174, 2, 1169, 0, 0, []), none, none, some (.ireturn, 69, 1, 0, 0, 0, 0, 0, [])]
def am_t_X9_turns : am_T := [am_t_X9_turns_0, am_t_X9_turns_1, am_t_X9_turns_2, am_t_X9_turns_3, am_t_X9_turns_4]
theorem am_q_X9_turns_0 : am_okQ (am_ok1 am_mt yX9_turns.cls yX9_turns.name cX9_turns 3 (some .boolean)) 0 am_t_X9_turns_0 = true := by decide +kernel
theorem am_q_X9_turns_1 : am_okQ (am_ok1 am_mt yX9_turns.cls yX9_turns.name cX9_turns 3 (some .boolean)) 1 am_t_X9_turns_1 = true := by decide +kernel
theorem am_q_X9_turns_2 : am_okQ (am_ok1 am_mt yX9_turns.cls yX9_turns.name cX9_turns 3 (some .boolean)) 2 am_t_X9_turns_2 = true := by decide +kernel
theorem am_q_X9_turns_3 : am_okQ (am_ok1 am_mt yX9_turns.cls yX9_turns.name cX9_turns 3 (some .boolean)) 3 am_t_X9_turns_3 = true := by decide +kernel
theorem am_q_X9_turns_4 : am_okQ (am_ok1 am_mt yX9_turns.cls yX9_turns.name cX9_turns 3 (some .boolean)) 4 am_t_X9_turns_4 = true := by decide +kernel
theorem am_q_X9_turns : am_okT (am_ok1 am_mt yX9_turns.cls yX9_turns.name cX9_turns 3 (some .boolean)) 0 am_t_X9_turns = true := am_okT_c am_q_X9_turns_0 (am_okT_c am_q_X9_turns_1 (am_okT_c am_q_X9_turns_2 (am_okT_c am_q_X9_turns_3 (am_okT_c am_q_X9_turns_4 (rfl)))))
def am_m_X9_turns : am_M := (yX9_turns, cX9_turns, 3, (some .boolean), 1, 1215, 90, 1214, 66, 1, am_t_X9_turns)
theorem am_k_X9_turns : am_okM am_mt am_m_X9_turns := ⟨by decide +kernel, am_q_X9_turns⟩
def am_t_X9_lozenges_0 : List (Option am_I) := [some (.aload_n 0, 1, 0, 0, 0, 0, 0, 0, []), some (.getfield 136, 4, 0, 9, 1, 900, 0, 0, []), none, none, some (.ifCond .ne 6, 7, 10, 0, 0, 0, 0, 0, []), none, none, some (.ldc 143, 9, 0, 0, 0, 1067, (-1000002), 0, []), none, some (.ireturn, 10, 0, 0, 0, 0, 0, 0, []), some (.iload_n 1, 11, 0, 1, 0, 0, 0, 0, []), some (.i2l, 12, 0, 0, 0, 0, 0, 0, []), some (.ldc2_w 212, 15, 0, 0, 0, 1178, 0, (-1), []), none, none, some (.ldc2_w 214, 18, 0, 0, 0, 1179, 0, 3, [])]
def am_t_X9_lozenges_1 : List (Option am_I) := [none, none, some (.invokestatic 48, 21, 0, 137, 3, 966, 0, 0, []), none, none, some (.ifCond .ne 6, 24, 27, 0, 0, 0, 0, 0, []), none, none, some (.ldc 58, 26, 0, 0, 0, 970, (-1000001), 0, []), none, some (.ireturn, 27, 0, 0, 0, 0, 0, 0, []), some (.ldc 200, 29, 0, 0, 0, 1168, (-1000000), 0, []), none, some (.istore_n 2, 30, 0, 2, 0, 0, 0, 0, []), some (.iconst 0, 31, 0, 0, 0, 0, 0, 0, []), some (.istore_n 3, 32, 0, 3, 0, 0, 0, 0, [])]
def am_t_X9_lozenges_2 : List (Option am_I) := [some (.iload_n 3, 33, 0, 3, 0, 0, 0, 0, []), some (.iconst 1, 34, 0, 0, 0, 0, 1, 0, []), some (.iconst 2, 35, 0, 0, 0, 0, 2, 0, []), some (.aload_n 0, 36, 0, 0, 0, 0, 0, 0, []), some (.getfield 7, 39, 0, 9, 0, 899, 0, 0, []), none, none, some (.iconst 1, 40, 0, 0, 0, 0, 1, 0, []), some (.iaload, 41, 0, 0, 0, 0, 0, 0, []), some (.imul, 42, 0, 0, 0, 0, 0, 0, []), some (.ishl, 43, 0, 0, 0, 0, 0, 0, []), some (.if_icmp .ge 54, 46, 97, 0, 0, 0, 0, 0, []), none, none, some (.iload_n 2, 47, 0, 2, 0, 0, 0, 0, []), some (.ldc 200, 49, 0, 0, 0, 1168, (-1000000), 0, [])]
def am_t_X9_lozenges_3 : List (Option am_I) := [none, some (.if_icmp .eq 16, 52, 65, 0, 0, 0, 0, 0, []), none, none, some (.aload_n 0, 53, 0, 0, 0, 0, 0, 0, []), some (.iload_n 3, 54, 0, 3, 0, 0, 0, 0, []), some (.invokevirtual 225, 57, 9, 198, 1, 1204, 0, 0, []), none, none, some (.aload_n 0, 58, 0, 0, 0, 0, 0, 0, []), some (.iload_n 2, 59, 0, 2, 0, 0, 0, 0, []), some (.invokevirtual 225, 62, 9, 198, 1, 1204, 0, 0, []), none, none, some (.if_icmp .ge 15, 65, 77, 0, 0, 0, 0, 0, []), none]
def am_t_X9_lozenges_4 : List (Option am_I) := [none, some (.aload_n 0, 66, 0, 0, 0, 0, 0, 0, []), some (.iload_n 3, 67, 0, 3, 0, 0, 0, 0, []), some (.invokevirtual 228, 70, 9, 199, 1, 1212, 0, 0, []), none, none, some (.ifCond .eq 7, 73, 77, 0, 0, 0, 0, 0, []), none, none, some (.iconst 1, 74, 0, 0, 0, 0, 1, 0, []), some (.goto 4, 77, 78, 0, 0, 0, 0, 0, []), none, none, some (.iconst 0, 78, 0, 0, 0, 0, 0, 0, []), some (.istore 4, 80, 0, 4, 0, 0, 0, 0, []), none]
def am_t_X9_lozenges_5 : List (Option am_I) := [some (.iload 4, 82, 0, 4, 0, 0, 0, 0, []), none, some (.ifCond .eq 7, 85, 89, 0, 0, 0, 0, 0, []), none, none, some (.iload_n 3, 86, 0, 3, 0, 0, 0, 0, []), some (.goto 4, 89, 90, 0, 0, 0, 0, 0, []), none, none, some (.iload_n 2, 90, 0, 2, 0, 0, 0, 0, []), some (.istore_n 2, 91, 0, 2, 0, 0, 0, 0, []), some (.iinc 3 1, 94, 0, 3, 0, 0, 1, 0, []), none, none, some (.goto (-62), 97, 32, 0, 0, 0, 0, 0, []), none]
def am_t_X9_lozenges_6 : List (Option am_I) := [none, some (.iload_n 2, 98, 0, 2, 0, 0, 0, 0, []), some (.ldc 200, 100, 0, 0, 0, 1168, (-1000000), 0, []), none, some (.if_icmp .eq 13, 103, 113, 0, 0, 0, 0, 0, []), none, none, some (.iload_n 1, 104, 0, 1, 0, 0, 0, 0, []), some (.aload_n 0, 105, 0, 0, 0, 0, 0, 0, []), some (.getfield 7, 108, 0, 9, 0, 899, 0, 0, []), none, none, some (.iconst 1, 109, 0, 0, 0, 0, 1, 0, []), some (.iaload, 110, 0, 0, 0, 0, 0, 0, []), some (.if_icmp .lt 6, 113, 116, 0, 0, 0, 0, 0, []), none]
def am_t_X9_lozenges_7 : List (Option am_I) := [none, some (.ldc 200, 115, 0, 0, 0, 1168, (-1000000), 0, []), none, some (.ireturn, 116, 0, 0, 0, 0, 0, 0, []), some (.iload_n 1, 117, 0, 1, 0, 0, 0, 0, []), some (.ifCond .ge 11, 120, 128, 0, 0, 0, 0, 0, []), none, none, some (.aload_n 0, 121, 0, 0, 0, 0, 0, 0, []), some (.iload_n 2, 122, 0, 2, 0, 0, 0, 0, []), some (.invokevirtual 225, 125, 9, 198, 1, 1204, 0, 0, []), none, none, some (.goto 9, 128, 134, 0, 0, 0, 0, 0, []), none, none]
def am_t_X9_lozenges_8 : List (Option am_I) := [some (.aload_n 0, 129, 0, 0, 0, 0, 0, 0, []), some (.iload_n 2, 130, 0, 2, 0, 0, 0, 0, []), some (.iload_n 1, 131, 0, 1, 0, 0, 0, 0, []), some (.invokevirtual 222, 134, 9, 197, 2, 1208, 0, 0, []), none, none, some (.ireturn, 135, 0, 0, 0, 0, 0, 0, [])]
def am_t_X9_lozenges : am_T := [am_t_X9_lozenges_0, am_t_X9_lozenges_1, am_t_X9_lozenges_2, am_t_X9_lozenges_3, am_t_X9_lozenges_4, am_t_X9_lozenges_5, am_t_X9_lozenges_6, am_t_X9_lozenges_7, am_t_X9_lozenges_8]
theorem am_q_X9_lozenges_0 : am_okQ (am_ok1 am_mt yX9_lozenges.cls yX9_lozenges.name cX9_lozenges 5 (some .int)) 0 am_t_X9_lozenges_0 = true := by decide +kernel
theorem am_q_X9_lozenges_1 : am_okQ (am_ok1 am_mt yX9_lozenges.cls yX9_lozenges.name cX9_lozenges 5 (some .int)) 1 am_t_X9_lozenges_1 = true := by decide +kernel
theorem am_q_X9_lozenges_2 : am_okQ (am_ok1 am_mt yX9_lozenges.cls yX9_lozenges.name cX9_lozenges 5 (some .int)) 2 am_t_X9_lozenges_2 = true := by decide +kernel
theorem am_q_X9_lozenges_3 : am_okQ (am_ok1 am_mt yX9_lozenges.cls yX9_lozenges.name cX9_lozenges 5 (some .int)) 3 am_t_X9_lozenges_3 = true := by decide +kernel
theorem am_q_X9_lozenges_4 : am_okQ (am_ok1 am_mt yX9_lozenges.cls yX9_lozenges.name cX9_lozenges 5 (some .int)) 4 am_t_X9_lozenges_4 = true := by decide +kernel
theorem am_q_X9_lozenges_5 : am_okQ (am_ok1 am_mt yX9_lozenges.cls yX9_lozenges.name cX9_lozenges 5 (some .int)) 5 am_t_X9_lozenges_5 = true := by decide +kernel
theorem am_q_X9_lozenges_6 : am_okQ (am_ok1 am_mt yX9_lozenges.cls yX9_lozenges.name cX9_lozenges 5 (some .int)) 6 am_t_X9_lozenges_6 = true := by decide +kernel
theorem am_q_X9_lozenges_7 : am_okQ (am_ok1 am_mt yX9_lozenges.cls yX9_lozenges.name cX9_lozenges 5 (some .int)) 7 am_t_X9_lozenges_7 = true := by decide +kernel
theorem am_q_X9_lozenges_8 : am_okQ (am_ok1 am_mt yX9_lozenges.cls yX9_lozenges.name cX9_lozenges 5 (some .int)) 8 am_t_X9_lozenges_8 = true := by decide +kernel
theorem am_q_X9_lozenges : am_okT (am_ok1 am_mt yX9_lozenges.cls yX9_lozenges.name cX9_lozenges 5 (some .int)) 0 am_t_X9_lozenges = true := am_okT_c am_q_X9_lozenges_0 (am_okT_c am_q_X9_lozenges_1 (am_okT_c am_q_X9_lozenges_2 (am_okT_c am_q_X9_lozenges_3 (am_okT_c am_q_X9_lozenges_4 (am_okT_c am_q_X9_lozenges_5 (am_okT_c am_q_X9_lozenges_6 (am_okT_c am_q_X9_lozenges_7 (am_okT_c am_q_X9_lozenges_8 (rfl)))))))))
def am_m_X9_lozenges : am_M := (yX9_lozenges, cX9_lozenges, 5, (some .int), 1, 1203, 90, 1201, 1202, 1, am_t_X9_lozenges)
theorem am_k_X9_lozenges : am_okM am_mt am_m_X9_lozenges := ⟨by decide +kernel, am_q_X9_lozenges⟩
def am_t_X9_later_0 : List (Option am_I) := [some (.aload_n 0, 1, 0, 0, 0, 0, 0, 0, []), some (.iload_n 1, 2, 0, 1, 0, 0, 0, 0, []), some (.invokevirtual 184, 5, 9, 167, 1, 1124, 0, 0, []), none, none, some (.ifCond .eq 15, 8, 20, 0, 0, 0, 0, 0, []), none, none, some (.iload_n 2, 9, 0, 2, 0, 0, 0, 0, []), some (.i2l, 10, 0, 0, 0, 0, 0, 0, []), some (.lconst 0, 11, 0, 0, 0, 0, 0, 0, []), some (.ldc2_w 231, 14, 0, 0, 0, 1220, 0, 40, []), none, none, some (.invokestatic 48, 17, 0, 137, 3, 966, 0, 0, []), none]
def am_t_X9_later_1 : List (Option am_I) := [none, some (.ifCond .ne 6, 20, 23, 0, 0, 0, 0, 0, []), none, none, some (.ldc 58, 22, 0, 0, 0, 970, (-1000001), 0, []), none, some (.ireturn, 23, 0, 0, 0, 0, 0, 0, []), some (.aload_n 0, 24, 0, 0, 0, 0, 0, 0, []), some (.invokevirtual 204, 27, 9, 187, 0, 1184, 0, 0, []), none, none, some (.iconst 0, 28, 0, 0, 0, 0, 0, 0, []), some (.istore_n 3, 29, 0, 3, 0, 0, 0, 0, []), some (.iload_n 3, 30, 0, 3, 0, 0, 0, 0, []), some (.iload_n 2, 31, 0, 2, 0, 0, 0, 0, []), some (.if_icmp .ge 17, 34, 48, 0, 0, 0, 0, 0, [])]
def am_t_X9_later_2 : List (Option am_I) := [none, none, some (.aload_n 0, 35, 0, 0, 0, 0, 0, 0, []), some (.sipush 567, 38, 0, 0, 0, 0, 567, 0, []), none, none, some (.invokevirtual 233, 41, 9, 177, 1, 1221, 0, 0, []), none, none, some (.pop, 42, 0, 0, 0, 0, 0, 0, []), some (.iinc 3 1, 45, 0, 3, 0, 0, 1, 0, []), none, none, some (.goto (-16), 48, 29, 0, 0, 0, 0, 0, []), none, none]
def am_t_X9_later_3 : List (Option am_I) := [some (.aload_n 0, 49, 0, 0, 0, 0, 0, 0, []), some (.getfield 7, 52, 0, 9, 0, 899, 0, 0, []), none, none, some (.sipush 580, 55, 0, 0, 0, 0, 580, 0, []), none, none, some (.iload_n 1, 56, 0, 1, 0, 0, 0, 0, []), some (.iadd, 57, 0, 0, 0, 0, 0, 0, []), some (.iaload, 58, 0, 0, 0, 0, 0, 0, []), some (.ireturn, 59, 0, 0, 0, 0, 0, 0, [])]
def am_t_X9_later : am_T := [am_t_X9_later_0, am_t_X9_later_1, am_t_X9_later_2, am_t_X9_later_3]
theorem am_q_X9_later_0 : am_okQ (am_ok1 am_mt yX9_later.cls yX9_later.name cX9_later 4 (some .int)) 0 am_t_X9_later_0 = true := by decide +kernel
theorem am_q_X9_later_1 : am_okQ (am_ok1 am_mt yX9_later.cls yX9_later.name cX9_later 4 (some .int)) 1 am_t_X9_later_1 = true := by decide +kernel
theorem am_q_X9_later_2 : am_okQ (am_ok1 am_mt yX9_later.cls yX9_later.name cX9_later 4 (some .int)) 2 am_t_X9_later_2 = true := by decide +kernel
theorem am_q_X9_later_3 : am_okQ (am_ok1 am_mt yX9_later.cls yX9_later.name cX9_later 4 (some .int)) 3 am_t_X9_later_3 = true := by decide +kernel
theorem am_q_X9_later : am_okT (am_ok1 am_mt yX9_later.cls yX9_later.name cX9_later 4 (some .int)) 0 am_t_X9_later = true := am_okT_c am_q_X9_later_0 (am_okT_c am_q_X9_later_1 (am_okT_c am_q_X9_later_2 (am_okT_c am_q_X9_later_3 (rfl))))
def am_m_X9_later : am_M := (yX9_later, cX9_later, 4, (some .int), 1, 1219, 90, 1217, 1218, 2, am_t_X9_later)
theorem am_k_X9_later : am_okM am_mt am_m_X9_later := ⟨by decide +kernel, am_q_X9_later⟩
def am_t_X9_carried_0 : List (Option am_I) := [some (.aload_n 0, 1, 0, 0, 0, 0, 0, 0, []), some (.getfield 136, 4, 0, 9, 1, 900, 0, 0, []), none, none, some (.ifCond .ne 6, 7, 10, 0, 0, 0, 0, 0, []), none, none, some (.ldc 143, 9, 0, 0, 0, 1067, (-1000002), 0, []), none, some (.ireturn, 10, 0, 0, 0, 0, 0, 0, []), some (.iload_n 1, 11, 0, 1, 0, 0, 0, 0, []), some (.i2l, 12, 0, 0, 0, 0, 0, 0, []), some (.lconst 0, 13, 0, 0, 0, 0, 0, 0, []), some (.ldc2_w 231, 16, 0, 0, 0, 1220, 0, 40, []), none, none]
def am_t_X9_carried_1 : List (Option am_I) := [some (.invokestatic 48, 19, 0, 137, 3, 966, 0, 0, []), none, none, some (.ifCond .ne 6, 22, 25, 0, 0, 0, 0, 0, []), none, none, some (.ldc 58, 24, 0, 0, 0, 970, (-1000001), 0, []), none, some (.ireturn, 25, 0, 0, 0, 0, 0, 0, []), some (.aload_n 0, 26, 0, 0, 0, 0, 0, 0, []), some (.invokevirtual 204, 29, 9, 187, 0, 1184, 0, 0, []), none, none, some (.iconst 0, 30, 0, 0, 0, 0, 0, 0, []), some (.istore_n 2, 31, 0, 2, 0, 0, 0, 0, []), some (.iconst 0, 32, 0, 0, 0, 0, 0, 0, [])]
def am_t_X9_carried_2 : List (Option am_I) := [some (.istore_n 3, 33, 0, 3, 0, 0, 0, 0, []), some (.iload_n 3, 34, 0, 3, 0, 0, 0, 0, []), some (.iload_n 1, 35, 0, 1, 0, 0, 0, 0, []), some (.if_icmp .ge 19, 38, 54, 0, 0, 0, 0, 0, []), none, none, some (.iload_n 2, 39, 0, 2, 0, 0, 0, 0, []), some (.aload_n 0, 40, 0, 0, 0, 0, 0, 0, []), some (.sipush 567, 43, 0, 0, 0, 0, 567, 0, []), none, none, some (.invokevirtual 233, 46, 9, 177, 1, 1221, 0, 0, []), none, none, some (.iadd, 47, 0, 0, 0, 0, 0, 0, []), some (.istore_n 2, 48, 0, 2, 0, 0, 0, 0, [])]
def am_t_X9_carried_3 : List (Option am_I) := [some (.iinc 3 1, 51, 0, 3, 0, 0, 1, 0, []), none, none, some (.goto (-18), 54, 33, 0, 0, 0, 0, 0, []), none, none, some (.iload_n 2, 55, 0, 2, 0, 0, 0, 0, []), some (.ireturn, 56, 0, 0, 0, 0, 0, 0, [])]
def am_t_X9_carried : am_T := [am_t_X9_carried_0, am_t_X9_carried_1, am_t_X9_carried_2, am_t_X9_carried_3]
theorem am_q_X9_carried_0 : am_okQ (am_ok1 am_mt yX9_carried.cls yX9_carried.name cX9_carried 4 (some .int)) 0 am_t_X9_carried_0 = true := by decide +kernel
theorem am_q_X9_carried_1 : am_okQ (am_ok1 am_mt yX9_carried.cls yX9_carried.name cX9_carried 4 (some .int)) 1 am_t_X9_carried_1 = true := by decide +kernel
theorem am_q_X9_carried_2 : am_okQ (am_ok1 am_mt yX9_carried.cls yX9_carried.name cX9_carried 4 (some .int)) 2 am_t_X9_carried_2 = true := by decide +kernel
theorem am_q_X9_carried_3 : am_okQ (am_ok1 am_mt yX9_carried.cls yX9_carried.name cX9_carried 4 (some .int)) 3 am_t_X9_carried_3 = true := by decide +kernel
theorem am_q_X9_carried : am_okT (am_ok1 am_mt yX9_carried.cls yX9_carried.name cX9_carried 4 (some .int)) 0 am_t_X9_carried = true := am_okT_c am_q_X9_carried_0 (am_okT_c am_q_X9_carried_1 (am_okT_c am_q_X9_carried_2 (am_okT_c am_q_X9_carried_3 (rfl))))
def am_m_X9_carried : am_M := (yX9_carried, cX9_carried, 4, (some .int), 1, 1228, 90, 1226, 1227, 1, am_t_X9_carried)
theorem am_k_X9_carried : am_okM am_mt am_m_X9_carried := ⟨by decide +kernel, am_q_X9_carried⟩
def am_ms8 : List am_M := [am_m_X9_fewest, am_m_X9_nextSet, am_m_X9_mostCarried, am_m_X9_plan, am_m_X9_carriedBy, am_m_X9_agenda, am_m_X9_gets, am_m_X9_lozengesIn, am_m_X9_turns, am_m_X9_lozenges, am_m_X9_later, am_m_X9_carried]
theorem am_ms8_ok : ∀ M ∈ am_ms8, am_okM am_mt M := List.forall_mem_cons.mpr ⟨am_k_X9_fewest, List.forall_mem_cons.mpr ⟨am_k_X9_nextSet, List.forall_mem_cons.mpr ⟨am_k_X9_mostCarried, List.forall_mem_cons.mpr ⟨am_k_X9_plan, List.forall_mem_cons.mpr ⟨am_k_X9_carriedBy, List.forall_mem_cons.mpr ⟨am_k_X9_agenda, List.forall_mem_cons.mpr ⟨am_k_X9_gets, List.forall_mem_cons.mpr ⟨am_k_X9_lozengesIn, List.forall_mem_cons.mpr ⟨am_k_X9_turns, List.forall_mem_cons.mpr ⟨am_k_X9_lozenges, List.forall_mem_cons.mpr ⟨am_k_X9_later, List.forall_mem_cons.mpr ⟨am_k_X9_carried, fun _ h => absurd h List.not_mem_nil⟩⟩⟩⟩⟩⟩⟩⟩⟩⟩⟩⟩
end
section
def am_t_X9_noItems_0 : List (Option am_I) := [some (.aload_n 0, 1, 0, 0, 0, 0, 0, 0, []), some (.getfield 20, 4, 0, 9, 5, 904, 0, 0, []), none, none, some (.iload_n 1, 5, 0, 1, 0, 0, 0, 0, []), some (.iaload, 6, 0, 0, 0, 0, 0, 0, []), some (.ifCond .ge 11, 9, 17, 0, 0, 0, 0, 0, []), none, none, some (.aload_n 0, 10, 0, 0, 0, 0, 0, 0, []), some (.iconst 1, 11, 0, 0, 0, 0, 1, 0, []), some (.invokevirtual 59, 14, 9, 141, 1, 971, 0, 0, []), none, none, some (.goto 22, 17, 36, 0, 0, 0, 0, 0, []), none]
def am_t_X9_noItems_1 : List (Option am_I) := [none, some (.aload_n 0, 18, 0, 0, 0, 0, 0, 0, []), some (.iload_n 1, 19, 0, 1, 0, 0, 0, 0, []), some (.iload_n 2, 20, 0, 2, 0, 0, 0, 0, []), some (.iload_n 3, 21, 0, 3, 0, 0, 0, 0, []), some (.invokevirtual 70, 24, 9, 147, 3, 991, 0, 0, []), none, none, some (.ifCond .eq 7, 27, 31, 0, 0, 0, 0, 0, []), none, none, some (.iconst 0, 28, 0, 0, 0, 0, 0, 0, []), some (.goto 8, 31, 36, 0, 0, 0, 0, 0, []), none, none, some (.aload_n 0, 32, 0, 0, 0, 0, 0, 0, [])]
def am_t_X9_noItems_2 : List (Option am_I) := [some (.iconst 2, 33, 0, 0, 0, 0, 2, 0, []), some (.invokevirtual 59, 36, 9, 141, 1, 971, 0, 0, []), none, none, some (.ireturn, 37, 0, 0, 0, 0, 0, 0, [])]
def am_t_X9_noItems : am_T := [am_t_X9_noItems_0, am_t_X9_noItems_1, am_t_X9_noItems_2]
theorem am_q_X9_noItems_0 : am_okQ (am_ok1 am_mt yX9_noItems.cls yX9_noItems.name cX9_noItems 4 (some .int)) 0 am_t_X9_noItems_0 = true := by decide +kernel
theorem am_q_X9_noItems_1 : am_okQ (am_ok1 am_mt yX9_noItems.cls yX9_noItems.name cX9_noItems 4 (some .int)) 1 am_t_X9_noItems_1 = true := by decide +kernel
theorem am_q_X9_noItems_2 : am_okQ (am_ok1 am_mt yX9_noItems.cls yX9_noItems.name cX9_noItems 4 (some .int)) 2 am_t_X9_noItems_2 = true := by decide +kernel
theorem am_q_X9_noItems : am_okT (am_ok1 am_mt yX9_noItems.cls yX9_noItems.name cX9_noItems 4 (some .int)) 0 am_t_X9_noItems = true := am_okT_c am_q_X9_noItems_0 (am_okT_c am_q_X9_noItems_1 (am_okT_c am_q_X9_noItems_2 (rfl)))
def am_m_X9_noItems : am_M := (yX9_noItems, cX9_noItems, 4, (some .int), 1, 1237, 90, 1236, 68, 3, am_t_X9_noItems)
theorem am_k_X9_noItems : am_okM am_mt am_m_X9_noItems := ⟨by decide +kernel, am_q_X9_noItems⟩
def am_t_X9_isSo_0 : List (Option am_I) := [some (.aload_n 0, 1, 0, 0, 0, 0, 0, 0, []), some (.invokevirtual 204, 4, 9, 187, 0, 1184, 0, 0, []), none, none, some (.aload_n 0, 5, 0, 0, 0, 0, 0, 0, []), some (.getfield 7, 8, 0, 9, 0, 899, 0, 0, []), none, none, some (.sipush 567, 11, 0, 0, 0, 0, 567, 0, []), none, none, some (.iload 4, 13, 0, 4, 0, 0, 0, 0, []), none, some (.iadd, 14, 0, 0, 0, 0, 0, 0, []), some (.iload 5, 16, 0, 5, 0, 0, 0, 0, []), none]
def am_t_X9_isSo_1 : List (Option am_I) := [some (.iastore, 17, 0, 0, 0, 0, 0, 0, []), some (.iconst 0, 18, 0, 0, 0, 0, 0, 0, []), some (.istore 6, 20, 0, 6, 0, 0, 0, 0, []), none, some (.iload 6, 22, 0, 6, 0, 0, 0, 0, []), none, some (.iload_n 3, 23, 0, 3, 0, 0, 0, 0, []), some (.if_icmp .ge 35, 26, 58, 0, 0, 0, 0, 0, []), none, none, some (.aload_n 0, 27, 0, 0, 0, 0, 0, 0, []), some (.sipush 567, 30, 0, 0, 0, 0, 567, 0, []), none, none, some (.invokevirtual 233, 33, 9, 177, 1, 1221, 0, 0, []), none]
def am_t_X9_isSo_2 : List (Option am_I) := [none, some (.aload_n 0, 34, 0, 0, 0, 0, 0, 0, []), some (.getfield 23, 37, 0, 9, 6, 905, 0, 0, []), none, none, some (.bipush 40, 39, 0, 0, 0, 0, 40, 0, []), none, some (.iload_n 1, 40, 0, 1, 0, 0, 0, 0, []), some (.imul, 41, 0, 0, 0, 0, 0, 0, []), some (.iload_n 2, 42, 0, 2, 0, 0, 0, 0, []), some (.iadd, 43, 0, 0, 0, 0, 0, 0, []), some (.iload 6, 45, 0, 6, 0, 0, 0, 0, []), none, some (.iadd, 46, 0, 0, 0, 0, 0, 0, []), some (.iaload, 47, 0, 0, 0, 0, 0, 0, []), some (.if_icmp .eq 5, 50, 52, 0, 0, 0, 0, 0, [])]
def am_t_X9_isSo_3 : List (Option am_I) := [none, none, some (.iconst 0, 51, 0, 0, 0, 0, 0, 0, []), some (.ireturn, 52, 1, 0, 0, 0, 0, 0, []), some (.iinc 6 1, 55, 0, 6, 0, 0, 1, 0, []), none, none, some (.goto (-35), 58, 20, 0, 0, 0, 0, 0, []), none, none, some (.iconst 1, 59, 0, 0, 0, 0, 1, 0, []), some (.ireturn, 60, 1, 0, 0, 0, 0, 0, [])]
def am_t_X9_isSo : am_T := [am_t_X9_isSo_0, am_t_X9_isSo_1, am_t_X9_isSo_2, am_t_X9_isSo_3]
theorem am_q_X9_isSo_0 : am_okQ (am_ok1 am_mt yX9_isSo.cls yX9_isSo.name cX9_isSo 7 (some .boolean)) 0 am_t_X9_isSo_0 = true := by decide +kernel
theorem am_q_X9_isSo_1 : am_okQ (am_ok1 am_mt yX9_isSo.cls yX9_isSo.name cX9_isSo 7 (some .boolean)) 1 am_t_X9_isSo_1 = true := by decide +kernel
theorem am_q_X9_isSo_2 : am_okQ (am_ok1 am_mt yX9_isSo.cls yX9_isSo.name cX9_isSo 7 (some .boolean)) 2 am_t_X9_isSo_2 = true := by decide +kernel
theorem am_q_X9_isSo_3 : am_okQ (am_ok1 am_mt yX9_isSo.cls yX9_isSo.name cX9_isSo 7 (some .boolean)) 3 am_t_X9_isSo_3 = true := by decide +kernel
theorem am_q_X9_isSo : am_okT (am_ok1 am_mt yX9_isSo.cls yX9_isSo.name cX9_isSo 7 (some .boolean)) 0 am_t_X9_isSo = true := am_okT_c am_q_X9_isSo_0 (am_okT_c am_q_X9_isSo_1 (am_okT_c am_q_X9_isSo_2 (am_okT_c am_q_X9_isSo_3 (rfl))))
def am_m_X9_isSo : am_M := (yX9_isSo, cX9_isSo, 7, (some .boolean), 1, 1241, 90, 1240, 69, 5, am_t_X9_isSo)
theorem am_k_X9_isSo : am_okM am_mt am_m_X9_isSo := ⟨by decide +kernel, am_q_X9_isSo⟩
def am_t_X9_fits_0 : List (Option am_I) := [some (.aload_n 0, 1, 0, 0, 0, 0, 0, 0, []), some (.iload_n 1, 2, 0, 1, 0, 0, 0, 0, []), some (.invokevirtual 184, 5, 9, 167, 1, 1124, 0, 0, []), none, none, some (.ifCond .eq 34, 8, 39, 0, 0, 0, 0, 0, []), none, none, some (.iload_n 2, 9, 0, 2, 0, 0, 0, 0, []), some (.invokestatic 52, 12, 0, 143, 1, 962, 0, 0, []), none, none, some (.ifCond .eq 27, 15, 39, 0, 0, 0, 0, 0, []), none, none, some (.iload 4, 17, 0, 4, 0, 0, 0, 0, [])]
def am_t_X9_fits_1 : List (Option am_I) := [none, some (.i2l, 18, 0, 0, 0, 0, 0, 0, []), some (.lconst 1, 19, 0, 0, 0, 0, 0, 1, []), some (.ldc2_w 236, 22, 0, 0, 0, 1233, 0, 12, []), none, none, some (.invokestatic 48, 25, 0, 137, 3, 966, 0, 0, []), none, none, some (.ifCond .eq 14, 28, 39, 0, 0, 0, 0, 0, []), none, none, some (.iload 5, 30, 0, 5, 0, 0, 0, 0, []), none, some (.i2l, 31, 0, 0, 0, 0, 0, 0, []), some (.lconst 0, 32, 0, 0, 0, 0, 0, 0, [])]
def am_t_X9_fits_2 : List (Option am_I) := [some (.lconst 1, 33, 0, 0, 0, 0, 0, 1, []), some (.invokestatic 48, 36, 0, 137, 3, 966, 0, 0, []), none, none, some (.ifCond .ne 6, 39, 42, 0, 0, 0, 0, 0, []), none, none, some (.ldc 58, 41, 0, 0, 0, 970, (-1000001), 0, []), none, some (.ireturn, 42, 0, 0, 0, 0, 0, 0, []), some (.aload_n 0, 43, 0, 0, 0, 0, 0, 0, []), some (.iload_n 2, 44, 0, 2, 0, 0, 0, 0, []), some (.iload_n 3, 45, 0, 3, 0, 0, 0, 0, []), some (.iload 4, 47, 0, 4, 0, 0, 0, 0, []), none, some (.invokevirtual 238, 50, 9, 203, 3, 1234, 0, 0, [])]
def am_t_X9_fits_3 : List (Option am_I) := [none, none, some (.istore 6, 52, 0, 6, 0, 0, 0, 0, []), none, some (.iload 6, 54, 0, 6, 0, 0, 0, 0, []), none, some (.ifCond .eq 6, 57, 60, 0, 0, 0, 0, 0, []), none, none, some (.iload 6, 59, 0, 6, 0, 0, 0, 0, []), none, some (.ireturn, 60, 0, 0, 0, 0, 0, 0, []), some (.iconst 0, 61, 0, 0, 0, 0, 0, 0, []), some (.istore 7, 63, 0, 7, 0, 0, 0, 0, []), none, some (.iload 5, 65, 0, 5, 0, 0, 0, 0, [])]
def am_t_X9_fits_4 : List (Option am_I) := [none, some (.istore 8, 67, 0, 8, 0, 0, 0, 0, []), none, some (.iload 8, 69, 0, 8, 0, 0, 0, 0, []), none, some (.iload 5, 71, 0, 5, 0, 0, 0, 0, []), none, some (.ifCond .ne 8, 74, 79, 0, 0, 0, 0, 0, []), none, none, some (.bipush 21, 76, 0, 0, 0, 0, 21, 0, []), none, some (.goto 5, 79, 81, 0, 0, 0, 0, 0, []), none, none, some (.bipush 6, 81, 0, 0, 0, 0, 6, 0, [])]
def am_t_X9_fits_5 : List (Option am_I) := [none, some (.if_icmp .ge 49, 84, 130, 0, 0, 0, 0, 0, []), none, none, some (.iload 7, 86, 0, 7, 0, 0, 0, 0, []), none, some (.aload_n 0, 87, 0, 0, 0, 0, 0, 0, []), some (.iload_n 2, 88, 0, 2, 0, 0, 0, 0, []), some (.iload_n 3, 89, 0, 3, 0, 0, 0, 0, []), some (.iload 4, 91, 0, 4, 0, 0, 0, 0, []), none, some (.iload 5, 93, 0, 5, 0, 0, 0, 0, []), none, some (.ifCond .ne 8, 96, 101, 0, 0, 0, 0, 0, []), none, none]
def am_t_X9_fits_6 : List (Option am_I) := [some (.bipush 13, 98, 0, 0, 0, 0, 13, 0, []), none, some (.goto 5, 101, 103, 0, 0, 0, 0, 0, []), none, none, some (.bipush 9, 103, 0, 0, 0, 0, 9, 0, []), none, some (.iload_n 1, 104, 0, 1, 0, 0, 0, 0, []), some (.iadd, 105, 0, 0, 0, 0, 0, 0, []), some (.iload 8, 107, 0, 8, 0, 0, 0, 0, []), none, some (.invokevirtual 241, 110, 9, 204, 5, 1238, 0, 0, []), none, none, some (.ifCond .eq 10, 113, 120, 0, 0, 0, 0, 0, []), none]
def am_t_X9_fits_7 : List (Option am_I) := [none, some (.iconst 1, 114, 0, 0, 0, 0, 1, 0, []), some (.iload 8, 116, 0, 8, 0, 0, 0, 0, []), none, some (.ishl, 117, 0, 0, 0, 0, 0, 0, []), some (.goto 4, 120, 121, 0, 0, 0, 0, 0, []), none, none, some (.iconst 0, 121, 0, 0, 0, 0, 0, 0, []), some (.ior, 122, 0, 0, 0, 0, 0, 0, []), some (.istore 7, 124, 0, 7, 0, 0, 0, 0, []), none, some (.iinc 8 1, 127, 0, 8, 0, 0, 1, 0, []), none, none, some (.goto (-60), 130, 67, 0, 0, 0, 0, 0, [])]
def am_t_X9_fits_8 : List (Option am_I) := [none, none, some (.aload_n 0, 131, 0, 0, 0, 0, 0, 0, []), some (.iload 7, 133, 0, 7, 0, 0, 0, 0, []), none, some (.invokevirtual 63, 136, 9, 142, 1, 976, 0, 0, []), none, none, some (.ireturn, 137, 0, 0, 0, 0, 0, 0, [])]
def am_t_X9_fits : am_T := [am_t_X9_fits_0, am_t_X9_fits_1, am_t_X9_fits_2, am_t_X9_fits_3, am_t_X9_fits_4, am_t_X9_fits_5, am_t_X9_fits_6, am_t_X9_fits_7, am_t_X9_fits_8]
theorem am_q_X9_fits_0 : am_okQ (am_ok1 am_mt yX9_fits.cls yX9_fits.name cX9_fits 9 (some .int)) 0 am_t_X9_fits_0 = true := by decide +kernel
theorem am_q_X9_fits_1 : am_okQ (am_ok1 am_mt yX9_fits.cls yX9_fits.name cX9_fits 9 (some .int)) 1 am_t_X9_fits_1 = true := by decide +kernel
theorem am_q_X9_fits_2 : am_okQ (am_ok1 am_mt yX9_fits.cls yX9_fits.name cX9_fits 9 (some .int)) 2 am_t_X9_fits_2 = true := by decide +kernel
theorem am_q_X9_fits_3 : am_okQ (am_ok1 am_mt yX9_fits.cls yX9_fits.name cX9_fits 9 (some .int)) 3 am_t_X9_fits_3 = true := by decide +kernel
theorem am_q_X9_fits_4 : am_okQ (am_ok1 am_mt yX9_fits.cls yX9_fits.name cX9_fits 9 (some .int)) 4 am_t_X9_fits_4 = true := by decide +kernel
theorem am_q_X9_fits_5 : am_okQ (am_ok1 am_mt yX9_fits.cls yX9_fits.name cX9_fits 9 (some .int)) 5 am_t_X9_fits_5 = true := by decide +kernel
theorem am_q_X9_fits_6 : am_okQ (am_ok1 am_mt yX9_fits.cls yX9_fits.name cX9_fits 9 (some .int)) 6 am_t_X9_fits_6 = true := by decide +kernel
theorem am_q_X9_fits_7 : am_okQ (am_ok1 am_mt yX9_fits.cls yX9_fits.name cX9_fits 9 (some .int)) 7 am_t_X9_fits_7 = true := by decide +kernel
theorem am_q_X9_fits_8 : am_okQ (am_ok1 am_mt yX9_fits.cls yX9_fits.name cX9_fits 9 (some .int)) 8 am_t_X9_fits_8 = true := by decide +kernel
theorem am_q_X9_fits : am_okT (am_ok1 am_mt yX9_fits.cls yX9_fits.name cX9_fits 9 (some .int)) 0 am_t_X9_fits = true := am_okT_c am_q_X9_fits_0 (am_okT_c am_q_X9_fits_1 (am_okT_c am_q_X9_fits_2 (am_okT_c am_q_X9_fits_3 (am_okT_c am_q_X9_fits_4 (am_okT_c am_q_X9_fits_5 (am_okT_c am_q_X9_fits_6 (am_okT_c am_q_X9_fits_7 (am_okT_c am_q_X9_fits_8 (rfl)))))))))
def am_m_X9_fits : am_M := (yX9_fits, cX9_fits, 9, (some .int), 1, 1232, 90, 1230, 1231, 5, am_t_X9_fits)
theorem am_k_X9_fits : am_okM am_mt am_m_X9_fits := ⟨by decide +kernel, am_q_X9_fits⟩
def am_t_X9_costs_0 : List (Option am_I) := [some (.aload_n 0, 1, 0, 0, 0, 0, 0, 0, []), some (.getfield 136, 4, 0, 9, 1, 900, 0, 0, []), none, none, some (.ifCond .ne 6, 7, 10, 0, 0, 0, 0, 0, []), none, none, some (.ldc 143, 9, 0, 0, 0, 1067, (-1000002), 0, []), none, some (.ireturn, 10, 0, 0, 0, 0, 0, 0, []), some (.iload_n 1, 11, 0, 1, 0, 0, 0, 0, []), some (.invokestatic 52, 14, 0, 143, 1, 962, 0, 0, []), none, none, some (.ifCond .eq 15, 17, 29, 0, 0, 0, 0, 0, []), none]
def am_t_X9_costs_1 : List (Option am_I) := [none, some (.iload_n 3, 18, 0, 3, 0, 0, 0, 0, []), some (.i2l, 19, 0, 0, 0, 0, 0, 0, []), some (.lconst 1, 20, 0, 0, 0, 0, 0, 1, []), some (.ldc2_w 236, 23, 0, 0, 0, 1233, 0, 12, []), none, none, some (.invokestatic 48, 26, 0, 137, 3, 966, 0, 0, []), none, none, some (.ifCond .ne 6, 29, 32, 0, 0, 0, 0, 0, []), none, none, some (.ldc 58, 31, 0, 0, 0, 970, (-1000001), 0, []), none, some (.ireturn, 32, 0, 0, 0, 0, 0, 0, [])]
def am_t_X9_costs_2 : List (Option am_I) := [some (.aload_n 0, 33, 0, 0, 0, 0, 0, 0, []), some (.iload_n 1, 34, 0, 1, 0, 0, 0, 0, []), some (.iload_n 2, 35, 0, 2, 0, 0, 0, 0, []), some (.iload_n 3, 36, 0, 3, 0, 0, 0, 0, []), some (.invokevirtual 238, 39, 9, 203, 3, 1234, 0, 0, []), none, none, some (.istore 4, 41, 0, 4, 0, 0, 0, 0, []), none, some (.iload 4, 43, 0, 4, 0, 0, 0, 0, []), none, some (.ifCond .eq 6, 46, 49, 0, 0, 0, 0, 0, []), none, none, some (.iload 4, 48, 0, 4, 0, 0, 0, 0, []), none]
def am_t_X9_costs_3 : List (Option am_I) := [some (.ireturn, 49, 0, 0, 0, 0, 0, 0, []), some (.iconst 0, 50, 0, 0, 0, 0, 0, 0, []), some (.istore 5, 52, 0, 5, 0, 0, 0, 0, []), none, some (.iconst 1, 53, 0, 0, 0, 0, 1, 0, []), some (.istore 6, 55, 0, 6, 0, 0, 0, 0, []), none, some (.iload 6, 57, 0, 6, 0, 0, 0, 0, []), none, some (.bipush 10, 59, 0, 0, 0, 0, 10, 0, []), none, some (.if_icmp .ge 35, 62, 94, 0, 0, 0, 0, 0, []), none, none, some (.iload 5, 64, 0, 5, 0, 0, 0, 0, []), none]
def am_t_X9_costs_4 : List (Option am_I) := [some (.aload_n 0, 65, 0, 0, 0, 0, 0, 0, []), some (.iload_n 1, 66, 0, 1, 0, 0, 0, 0, []), some (.iload_n 2, 67, 0, 2, 0, 0, 0, 0, []), some (.iload_n 3, 68, 0, 3, 0, 0, 0, 0, []), some (.iconst 2, 69, 0, 0, 0, 0, 2, 0, []), some (.iload 6, 71, 0, 6, 0, 0, 0, 0, []), none, some (.invokevirtual 241, 74, 9, 204, 5, 1238, 0, 0, []), none, none, some (.ifCond .eq 10, 77, 84, 0, 0, 0, 0, 0, []), none, none, some (.iconst 1, 78, 0, 0, 0, 0, 1, 0, []), some (.iload 6, 80, 0, 6, 0, 0, 0, 0, []), none]
def am_t_X9_costs_5 : List (Option am_I) := [some (.ishl, 81, 0, 0, 0, 0, 0, 0, []), some (.goto 4, 84, 85, 0, 0, 0, 0, 0, []), none, none, some (.iconst 0, 85, 0, 0, 0, 0, 0, 0, []), some (.ior, 86, 0, 0, 0, 0, 0, 0, []), some (.istore 5, 88, 0, 5, 0, 0, 0, 0, []), none, some (.iinc 6 1, 91, 0, 6, 0, 0, 1, 0, []), none, none, some (.goto (-36), 94, 55, 0, 0, 0, 0, 0, []), none, none, some (.aload_n 0, 95, 0, 0, 0, 0, 0, 0, []), some (.iload 5, 97, 0, 5, 0, 0, 0, 0, [])]
def am_t_X9_costs_6 : List (Option am_I) := [none, some (.invokevirtual 63, 100, 9, 142, 1, 976, 0, 0, []), none, none, some (.ireturn, 101, 0, 0, 0, 0, 0, 0, [])]
def am_t_X9_costs : am_T := [am_t_X9_costs_0, am_t_X9_costs_1, am_t_X9_costs_2, am_t_X9_costs_3, am_t_X9_costs_4, am_t_X9_costs_5, am_t_X9_costs_6]
theorem am_q_X9_costs_0 : am_okQ (am_ok1 am_mt yX9_costs.cls yX9_costs.name cX9_costs 7 (some .int)) 0 am_t_X9_costs_0 = true := by decide +kernel
theorem am_q_X9_costs_1 : am_okQ (am_ok1 am_mt yX9_costs.cls yX9_costs.name cX9_costs 7 (some .int)) 1 am_t_X9_costs_1 = true := by decide +kernel
theorem am_q_X9_costs_2 : am_okQ (am_ok1 am_mt yX9_costs.cls yX9_costs.name cX9_costs 7 (some .int)) 2 am_t_X9_costs_2 = true := by decide +kernel
theorem am_q_X9_costs_3 : am_okQ (am_ok1 am_mt yX9_costs.cls yX9_costs.name cX9_costs 7 (some .int)) 3 am_t_X9_costs_3 = true := by decide +kernel
theorem am_q_X9_costs_4 : am_okQ (am_ok1 am_mt yX9_costs.cls yX9_costs.name cX9_costs 7 (some .int)) 4 am_t_X9_costs_4 = true := by decide +kernel
theorem am_q_X9_costs_5 : am_okQ (am_ok1 am_mt yX9_costs.cls yX9_costs.name cX9_costs 7 (some .int)) 5 am_t_X9_costs_5 = true := by decide +kernel
theorem am_q_X9_costs_6 : am_okQ (am_ok1 am_mt yX9_costs.cls yX9_costs.name cX9_costs 7 (some .int)) 6 am_t_X9_costs_6 = true := by decide +kernel
theorem am_q_X9_costs : am_okT (am_ok1 am_mt yX9_costs.cls yX9_costs.name cX9_costs 7 (some .int)) 0 am_t_X9_costs = true := am_okT_c am_q_X9_costs_0 (am_okT_c am_q_X9_costs_1 (am_okT_c am_q_X9_costs_2 (am_okT_c am_q_X9_costs_3 (am_okT_c am_q_X9_costs_4 (am_okT_c am_q_X9_costs_5 (am_okT_c am_q_X9_costs_6 (rfl)))))))
def am_m_X9_costs : am_M := (yX9_costs, cX9_costs, 7, (some .int), 1, 1245, 90, 1243, 1244, 3, am_t_X9_costs)
theorem am_k_X9_costs : am_okM am_mt am_m_X9_costs := ⟨by decide +kernel, am_q_X9_costs⟩
def am_t_X9_colds_0 : List (Option am_I) := [some (.aload_n 0, 1, 0, 0, 0, 0, 0, 0, []), some (.getfield 136, 4, 0, 9, 1, 900, 0, 0, []), none, none, some (.ifCond .ne 6, 7, 10, 0, 0, 0, 0, 0, []), none, none, some (.ldc 143, 9, 0, 0, 0, 1067, (-1000002), 0, []), none, some (.ireturn, 10, 0, 0, 0, 0, 0, 0, []), some (.iload_n 1, 11, 0, 1, 0, 0, 0, 0, []), some (.i2l, 12, 0, 0, 0, 0, 0, 0, []), some (.lconst 0, 13, 0, 0, 0, 0, 0, 0, []), some (.ldc2_w 245, 16, 0, 0, 0, 1250, 0, 10, []), none, none]
def am_t_X9_colds_1 : List (Option am_I) := [some (.invokestatic 48, 19, 0, 137, 3, 966, 0, 0, []), none, none, some (.ifCond .eq 13, 22, 32, 0, 0, 0, 0, 0, []), none, none, some (.iload_n 2, 23, 0, 2, 0, 0, 0, 0, []), some (.i2l, 24, 0, 0, 0, 0, 0, 0, []), some (.lconst 0, 25, 0, 0, 0, 0, 0, 0, []), some (.lconst 1, 26, 0, 0, 0, 0, 0, 1, []), some (.invokestatic 48, 29, 0, 137, 3, 966, 0, 0, []), none, none, some (.ifCond .ne 6, 32, 35, 0, 0, 0, 0, 0, []), none, none]
def am_t_X9_colds_2 : List (Option am_I) := [some (.ldc 58, 34, 0, 0, 0, 970, (-1000001), 0, []), none, some (.ireturn, 35, 0, 0, 0, 0, 0, 0, []), some (.iconst 0, 36, 0, 0, 0, 0, 0, 0, []), some (.istore_n 3, 37, 0, 3, 0, 0, 0, 0, []), some (.iconst 0, 38, 0, 0, 0, 0, 0, 0, []), some (.istore 4, 40, 0, 4, 0, 0, 0, 0, []), none, some (.iconst 0, 41, 0, 0, 0, 0, 0, 0, []), some (.istore 5, 43, 0, 5, 0, 0, 0, 0, []), none, some (.iload 5, 45, 0, 5, 0, 0, 0, 0, []), none, some (.iconst 1, 46, 0, 0, 0, 0, 1, 0, []), some (.aload_n 0, 47, 0, 0, 0, 0, 0, 0, []), some (.getfield 7, 50, 0, 9, 0, 899, 0, 0, [])]
def am_t_X9_colds_3 : List (Option am_I) := [none, none, some (.iconst 1, 51, 0, 0, 0, 0, 1, 0, []), some (.iaload, 52, 0, 0, 0, 0, 0, 0, []), some (.ishl, 53, 0, 0, 0, 0, 0, 0, []), some (.if_icmp .ge 133, 56, 186, 0, 0, 0, 0, 0, []), none, none, some (.iconst 1, 57, 0, 0, 0, 0, 1, 0, []), some (.istore 6, 59, 0, 6, 0, 0, 0, 0, []), none, some (.aload_n 0, 60, 0, 0, 0, 0, 0, 0, []), some (.invokevirtual 204, 63, 9, 187, 0, 1184, 0, 0, []), none, none, some (.iconst 0, 64, 0, 0, 0, 0, 0, 0, [])]
def am_t_X9_colds_4 : List (Option am_I) := [some (.istore 7, 66, 0, 7, 0, 0, 0, 0, []), none, some (.iload 7, 68, 0, 7, 0, 0, 0, 0, []), none, some (.aload_n 0, 69, 0, 0, 0, 0, 0, 0, []), some (.getfield 7, 72, 0, 9, 0, 899, 0, 0, []), none, none, some (.iconst 1, 73, 0, 0, 0, 0, 1, 0, []), some (.iaload, 74, 0, 0, 0, 0, 0, 0, []), some (.if_icmp .ge 73, 77, 147, 0, 0, 0, 0, 0, []), none, none, some (.iload 6, 79, 0, 6, 0, 0, 0, 0, []), none, some (.iload 5, 81, 0, 5, 0, 0, 0, 0, [])]
def am_t_X9_colds_5 : List (Option am_I) := [none, some (.iload 7, 83, 0, 7, 0, 0, 0, 0, []), none, some (.invokestatic 156, 86, 0, 138, 2, 1107, 0, 0, []), none, none, some (.ifCond .eq 7, 89, 93, 0, 0, 0, 0, 0, []), none, none, some (.iload_n 1, 90, 0, 1, 0, 0, 0, 0, []), some (.goto 7, 93, 97, 0, 0, 0, 0, 0, []), none, none, some (.bipush 10, 95, 0, 0, 0, 0, 10, 0, []), none, some (.iload_n 1, 96, 0, 1, 0, 0, 0, 0, [])]
def am_t_X9_colds_6 : List (Option am_I) := [some (.isub, 97, 0, 0, 0, 0, 0, 0, []), some (.imul, 98, 0, 0, 0, 0, 0, 0, []), some (.istore 6, 100, 0, 6, 0, 0, 0, 0, []), none, some (.aload_n 0, 101, 0, 0, 0, 0, 0, 0, []), some (.getfield 7, 104, 0, 9, 0, 899, 0, 0, []), none, none, some (.sipush 580, 107, 0, 0, 0, 0, 580, 0, []), none, none, some (.iload 7, 109, 0, 7, 0, 0, 0, 0, []), none, some (.iadd, 110, 0, 0, 0, 0, 0, 0, []), some (.aload_n 0, 111, 0, 0, 0, 0, 0, 0, []), some (.getfield 7, 114, 0, 9, 0, 899, 0, 0, [])]
def am_t_X9_colds_7 : List (Option am_I) := [none, none, some (.sipush 580, 117, 0, 0, 0, 0, 580, 0, []), none, none, some (.iload 7, 119, 0, 7, 0, 0, 0, 0, []), none, some (.iadd, 120, 0, 0, 0, 0, 0, 0, []), some (.iaload, 121, 0, 0, 0, 0, 0, 0, []), some (.iload 5, 123, 0, 5, 0, 0, 0, 0, []), none, some (.iload 7, 125, 0, 7, 0, 0, 0, 0, []), none, some (.invokestatic 156, 128, 0, 138, 2, 1107, 0, 0, []), none, none]
def am_t_X9_colds_8 : List (Option am_I) := [some (.ifCond .eq 7, 131, 135, 0, 0, 0, 0, 0, []), none, none, some (.iconst 5, 132, 0, 0, 0, 0, 5, 0, []), some (.goto 4, 135, 136, 0, 0, 0, 0, 0, []), none, none, some (.iconst 0, 136, 0, 0, 0, 0, 0, 0, []), some (.isub, 137, 0, 0, 0, 0, 0, 0, []), some (.invokestatic 168, 140, 0, 139, 1, 1117, 0, 0, []), none, none, some (.iastore, 141, 0, 0, 0, 0, 0, 0, []), some (.iinc 7 1, 144, 0, 7, 0, 0, 1, 0, []), none, none]
def am_t_X9_colds_9 : List (Option am_I) := [some (.goto (-78), 147, 66, 0, 0, 0, 0, 0, []), none, none, some (.iload_n 3, 148, 0, 3, 0, 0, 0, 0, []), some (.aload_n 0, 149, 0, 0, 0, 0, 0, 0, []), some (.sipush 567, 152, 0, 0, 0, 0, 567, 0, []), none, none, some (.aload_n 0, 153, 0, 0, 0, 0, 0, 0, []), some (.sipush 567, 156, 0, 0, 0, 0, 567, 0, []), none, none, some (.invokevirtual 150, 159, 9, 170, 1, 1076, 0, 0, []), none, none, some (.invokevirtual 201, 162, 9, 174, 2, 1169, 0, 0, [])]
def am_t_X9_colds_10 : List (Option am_I) := [none, none, some (.ifCond .eq 8, 165, 170, 0, 0, 0, 0, 0, []), none, none, some (.iload 6, 167, 0, 6, 0, 0, 0, 0, []), none, some (.goto 4, 170, 171, 0, 0, 0, 0, 0, []), none, none, some (.iconst 0, 171, 0, 0, 0, 0, 0, 0, []), some (.iadd, 172, 0, 0, 0, 0, 0, 0, []), some (.istore_n 3, 173, 0, 3, 0, 0, 0, 0, []), some (.iload 4, 175, 0, 4, 0, 0, 0, 0, []), none, some (.iload 6, 177, 0, 6, 0, 0, 0, 0, [])]
def am_t_X9_colds_11 : List (Option am_I) := [none, some (.iadd, 178, 0, 0, 0, 0, 0, 0, []), some (.istore 4, 180, 0, 4, 0, 0, 0, 0, []), none, some (.iinc 5 1, 183, 0, 5, 0, 0, 1, 0, []), none, none, some (.goto (-140), 186, 43, 0, 0, 0, 0, 0, []), none, none, some (.iload_n 3, 187, 0, 3, 0, 0, 0, 0, []), some (.iload 4, 189, 0, 4, 0, 0, 0, 0, []), none, some (.iload_n 2, 190, 0, 2, 0, 0, 0, 0, []), some (.invokestatic 197, 193, 0, 188, 3, 1161, 0, 0, []), none]
def am_t_X9_colds_12 : List (Option am_I) := [none, some (.ireturn, 194, 0, 0, 0, 0, 0, 0, [])]
def am_t_X9_colds : am_T := [am_t_X9_colds_0, am_t_X9_colds_1, am_t_X9_colds_2, am_t_X9_colds_3, am_t_X9_colds_4, am_t_X9_colds_5, am_t_X9_colds_6, am_t_X9_colds_7, am_t_X9_colds_8, am_t_X9_colds_9, am_t_X9_colds_10, am_t_X9_colds_11, am_t_X9_colds_12]
theorem am_q_X9_colds_0 : am_okQ (am_ok1 am_mt yX9_colds.cls yX9_colds.name cX9_colds 8 (some .int)) 0 am_t_X9_colds_0 = true := by decide +kernel
theorem am_q_X9_colds_1 : am_okQ (am_ok1 am_mt yX9_colds.cls yX9_colds.name cX9_colds 8 (some .int)) 1 am_t_X9_colds_1 = true := by decide +kernel
theorem am_q_X9_colds_2 : am_okQ (am_ok1 am_mt yX9_colds.cls yX9_colds.name cX9_colds 8 (some .int)) 2 am_t_X9_colds_2 = true := by decide +kernel
theorem am_q_X9_colds_3 : am_okQ (am_ok1 am_mt yX9_colds.cls yX9_colds.name cX9_colds 8 (some .int)) 3 am_t_X9_colds_3 = true := by decide +kernel
theorem am_q_X9_colds_4 : am_okQ (am_ok1 am_mt yX9_colds.cls yX9_colds.name cX9_colds 8 (some .int)) 4 am_t_X9_colds_4 = true := by decide +kernel
theorem am_q_X9_colds_5 : am_okQ (am_ok1 am_mt yX9_colds.cls yX9_colds.name cX9_colds 8 (some .int)) 5 am_t_X9_colds_5 = true := by decide +kernel
theorem am_q_X9_colds_6 : am_okQ (am_ok1 am_mt yX9_colds.cls yX9_colds.name cX9_colds 8 (some .int)) 6 am_t_X9_colds_6 = true := by decide +kernel
theorem am_q_X9_colds_7 : am_okQ (am_ok1 am_mt yX9_colds.cls yX9_colds.name cX9_colds 8 (some .int)) 7 am_t_X9_colds_7 = true := by decide +kernel
theorem am_q_X9_colds_8 : am_okQ (am_ok1 am_mt yX9_colds.cls yX9_colds.name cX9_colds 8 (some .int)) 8 am_t_X9_colds_8 = true := by decide +kernel
theorem am_q_X9_colds_9 : am_okQ (am_ok1 am_mt yX9_colds.cls yX9_colds.name cX9_colds 8 (some .int)) 9 am_t_X9_colds_9 = true := by decide +kernel
theorem am_q_X9_colds_10 : am_okQ (am_ok1 am_mt yX9_colds.cls yX9_colds.name cX9_colds 8 (some .int)) 10 am_t_X9_colds_10 = true := by decide +kernel
theorem am_q_X9_colds_11 : am_okQ (am_ok1 am_mt yX9_colds.cls yX9_colds.name cX9_colds 8 (some .int)) 11 am_t_X9_colds_11 = true := by decide +kernel
theorem am_q_X9_colds_12 : am_okQ (am_ok1 am_mt yX9_colds.cls yX9_colds.name cX9_colds 8 (some .int)) 12 am_t_X9_colds_12 = true := by decide +kernel
theorem am_q_X9_colds : am_okT (am_ok1 am_mt yX9_colds.cls yX9_colds.name cX9_colds 8 (some .int)) 0 am_t_X9_colds = true := am_okT_c am_q_X9_colds_0 (am_okT_c am_q_X9_colds_1 (am_okT_c am_q_X9_colds_2 (am_okT_c am_q_X9_colds_3 (am_okT_c am_q_X9_colds_4 (am_okT_c am_q_X9_colds_5 (am_okT_c am_q_X9_colds_6 (am_okT_c am_q_X9_colds_7 (am_okT_c am_q_X9_colds_8 (am_okT_c am_q_X9_colds_9 (am_okT_c am_q_X9_colds_10 (am_okT_c am_q_X9_colds_11 (am_okT_c am_q_X9_colds_12 (rfl)))))))))))))
def am_m_X9_colds : am_M := (yX9_colds, cX9_colds, 8, (some .int), 1, 1249, 90, 1247, 1248, 2, am_t_X9_colds)
theorem am_k_X9_colds : am_okM am_mt am_m_X9_colds := ⟨by decide +kernel, am_q_X9_colds⟩
def am_t_X9_drawn_0 : List (Option am_I) := [some (.aload_n 0, 1, 0, 0, 0, 0, 0, 0, []), some (.getfield 136, 4, 0, 9, 1, 900, 0, 0, []), none, none, some (.ifCond .ne 6, 7, 10, 0, 0, 0, 0, 0, []), none, none, some (.ldc 143, 9, 0, 0, 0, 1067, (-1000002), 0, []), none, some (.ireturn, 10, 0, 0, 0, 0, 0, 0, []), some (.iload_n 1, 11, 0, 1, 0, 0, 0, 0, []), some (.i2l, 12, 0, 0, 0, 0, 0, 0, []), some (.lconst 0, 13, 0, 0, 0, 0, 0, 0, []), some (.ldc2_w 247, 16, 0, 0, 0, 1255, 0, 60, []), none, none]
def am_t_X9_drawn_1 : List (Option am_I) := [some (.invokestatic 48, 19, 0, 137, 3, 966, 0, 0, []), none, none, some (.ifCond .eq 25, 22, 44, 0, 0, 0, 0, 0, []), none, none, some (.iload_n 2, 23, 0, 2, 0, 0, 0, 0, []), some (.i2l, 24, 0, 0, 0, 0, 0, 0, []), some (.lconst 1, 25, 0, 0, 0, 0, 0, 1, []), some (.ldc2_w 249, 28, 0, 0, 0, 1256, 0, 999999, []), none, none, some (.invokestatic 48, 31, 0, 137, 3, 966, 0, 0, []), none, none, some (.ifCond .eq 13, 34, 44, 0, 0, 0, 0, 0, [])]
def am_t_X9_drawn_2 : List (Option am_I) := [none, none, some (.iload_n 3, 35, 0, 3, 0, 0, 0, 0, []), some (.i2l, 36, 0, 0, 0, 0, 0, 0, []), some (.lconst 0, 37, 0, 0, 0, 0, 0, 0, []), some (.lconst 1, 38, 0, 0, 0, 0, 0, 1, []), some (.invokestatic 48, 41, 0, 137, 3, 966, 0, 0, []), none, none, some (.ifCond .ne 6, 44, 47, 0, 0, 0, 0, 0, []), none, none, some (.ldc 58, 46, 0, 0, 0, 970, (-1000001), 0, []), none, some (.ireturn, 47, 0, 0, 0, 0, 0, 0, []), some (.aload_n 0, 48, 0, 0, 0, 0, 0, 0, [])]
def am_t_X9_drawn_3 : List (Option am_I) := [some (.invokevirtual 204, 51, 9, 187, 0, 1184, 0, 0, []), none, none, some (.iload_n 2, 52, 0, 2, 0, 0, 0, 0, []), some (.i2l, 53, 0, 0, 0, 0, 0, 0, []), some (.lstore 4, 55, 0, 4, 0, 0, 0, 0, []), none, some (.iconst 0, 56, 0, 0, 0, 0, 0, 0, []), some (.istore 6, 58, 0, 6, 0, 0, 0, 0, []), none, some (.iconst 0, 59, 0, 0, 0, 0, 0, 0, []), some (.istore 7, 61, 0, 7, 0, 0, 0, 0, []), none, some (.iload 7, 63, 0, 7, 0, 0, 0, 0, []), none, some (.iload_n 1, 64, 0, 1, 0, 0, 0, 0, [])]
def am_t_X9_drawn_4 : List (Option am_I) := [some (.if_icmp .ge 48, 67, 112, 0, 0, 0, 0, 0, []), none, none, some (.lload 4, 69, 0, 4, 0, 0, 0, 0, []), none, some (.ldc2_w 251, 72, 0, 0, 0, 1257, 0, 16807, []), none, none, some (.lmul, 73, 0, 0, 0, 0, 0, 0, []), some (.ldc2_w 253, 76, 0, 0, 0, 1258, 0, 2147483647, []), none, none, some (.lrem, 77, 0, 0, 0, 0, 0, 0, []), some (.lstore 4, 79, 0, 4, 0, 0, 0, 0, []), none, some (.iload 6, 81, 0, 6, 0, 0, 0, 0, [])]
def am_t_X9_drawn_5 : List (Option am_I) := [none, some (.aload_n 0, 82, 0, 0, 0, 0, 0, 0, []), some (.sipush 567, 85, 0, 0, 0, 0, 567, 0, []), none, none, some (.aload_n 0, 86, 0, 0, 0, 0, 0, 0, []), some (.sipush 567, 89, 0, 0, 0, 0, 567, 0, []), none, none, some (.invokevirtual 150, 92, 9, 170, 1, 1076, 0, 0, []), none, none, some (.lload 4, 94, 0, 4, 0, 0, 0, 0, []), none, some (.ldc2_w 255, 97, 0, 0, 0, 1259, 0, 16, []), none]
def am_t_X9_drawn_6 : List (Option am_I) := [none, some (.lrem, 98, 0, 0, 0, 0, 0, 0, []), some (.l2i, 99, 0, 0, 0, 0, 0, 0, []), some (.iand, 100, 0, 0, 0, 0, 0, 0, []), some (.invokevirtual 175, 103, 9, 176, 2, 1091, 0, 0, []), none, none, some (.iadd, 104, 0, 0, 0, 0, 0, 0, []), some (.istore 6, 106, 0, 6, 0, 0, 0, 0, []), none, some (.iinc 7 1, 109, 0, 7, 0, 0, 1, 0, []), none, none, some (.goto (-48), 112, 61, 0, 0, 0, 0, 0, []), none, none]
def am_t_X9_drawn_7 : List (Option am_I) := [some (.iconst 0, 113, 0, 0, 0, 0, 0, 0, []), some (.istore 7, 115, 0, 7, 0, 0, 0, 0, []), none, some (.iconst 0, 116, 0, 0, 0, 0, 0, 0, []), some (.istore 8, 118, 0, 8, 0, 0, 0, 0, []), none, some (.iload 8, 120, 0, 8, 0, 0, 0, 0, []), none, some (.aload_n 0, 121, 0, 0, 0, 0, 0, 0, []), some (.getfield 7, 124, 0, 9, 0, 899, 0, 0, []), none, none, some (.iconst 1, 125, 0, 0, 0, 0, 1, 0, []), some (.iaload, 126, 0, 0, 0, 0, 0, 0, []), some (.if_icmp .ge 25, 129, 151, 0, 0, 0, 0, 0, []), none]
def am_t_X9_drawn_8 : List (Option am_I) := [none, some (.iload 7, 131, 0, 7, 0, 0, 0, 0, []), none, some (.aload_n 0, 132, 0, 0, 0, 0, 0, 0, []), some (.getfield 7, 135, 0, 9, 0, 899, 0, 0, []), none, none, some (.sipush 580, 138, 0, 0, 0, 0, 580, 0, []), none, none, some (.iload 8, 140, 0, 8, 0, 0, 0, 0, []), none, some (.iadd, 141, 0, 0, 0, 0, 0, 0, []), some (.iaload, 142, 0, 0, 0, 0, 0, 0, []), some (.iadd, 143, 0, 0, 0, 0, 0, 0, []), some (.istore 7, 145, 0, 7, 0, 0, 0, 0, [])]
def am_t_X9_drawn_9 : List (Option am_I) := [none, some (.iinc 8 1, 148, 0, 8, 0, 0, 1, 0, []), none, none, some (.goto (-30), 151, 118, 0, 0, 0, 0, 0, []), none, none, some (.iload_n 3, 152, 0, 3, 0, 0, 0, 0, []), some (.ifCond .ne 8, 155, 160, 0, 0, 0, 0, 0, []), none, none, some (.iload 6, 157, 0, 6, 0, 0, 0, 0, []), none, some (.goto 5, 160, 162, 0, 0, 0, 0, 0, []), none, none]
def am_t_X9_drawn_10 : List (Option am_I) := [some (.iload 7, 162, 0, 7, 0, 0, 0, 0, []), none, some (.ireturn, 163, 0, 0, 0, 0, 0, 0, [])]
def am_t_X9_drawn : am_T := [am_t_X9_drawn_0, am_t_X9_drawn_1, am_t_X9_drawn_2, am_t_X9_drawn_3, am_t_X9_drawn_4, am_t_X9_drawn_5, am_t_X9_drawn_6, am_t_X9_drawn_7, am_t_X9_drawn_8, am_t_X9_drawn_9, am_t_X9_drawn_10]
theorem am_q_X9_drawn_0 : am_okQ (am_ok1 am_mt yX9_drawn.cls yX9_drawn.name cX9_drawn 9 (some .int)) 0 am_t_X9_drawn_0 = true := by decide +kernel
theorem am_q_X9_drawn_1 : am_okQ (am_ok1 am_mt yX9_drawn.cls yX9_drawn.name cX9_drawn 9 (some .int)) 1 am_t_X9_drawn_1 = true := by decide +kernel
theorem am_q_X9_drawn_2 : am_okQ (am_ok1 am_mt yX9_drawn.cls yX9_drawn.name cX9_drawn 9 (some .int)) 2 am_t_X9_drawn_2 = true := by decide +kernel
theorem am_q_X9_drawn_3 : am_okQ (am_ok1 am_mt yX9_drawn.cls yX9_drawn.name cX9_drawn 9 (some .int)) 3 am_t_X9_drawn_3 = true := by decide +kernel
theorem am_q_X9_drawn_4 : am_okQ (am_ok1 am_mt yX9_drawn.cls yX9_drawn.name cX9_drawn 9 (some .int)) 4 am_t_X9_drawn_4 = true := by decide +kernel
theorem am_q_X9_drawn_5 : am_okQ (am_ok1 am_mt yX9_drawn.cls yX9_drawn.name cX9_drawn 9 (some .int)) 5 am_t_X9_drawn_5 = true := by decide +kernel
theorem am_q_X9_drawn_6 : am_okQ (am_ok1 am_mt yX9_drawn.cls yX9_drawn.name cX9_drawn 9 (some .int)) 6 am_t_X9_drawn_6 = true := by decide +kernel
theorem am_q_X9_drawn_7 : am_okQ (am_ok1 am_mt yX9_drawn.cls yX9_drawn.name cX9_drawn 9 (some .int)) 7 am_t_X9_drawn_7 = true := by decide +kernel
theorem am_q_X9_drawn_8 : am_okQ (am_ok1 am_mt yX9_drawn.cls yX9_drawn.name cX9_drawn 9 (some .int)) 8 am_t_X9_drawn_8 = true := by decide +kernel
theorem am_q_X9_drawn_9 : am_okQ (am_ok1 am_mt yX9_drawn.cls yX9_drawn.name cX9_drawn 9 (some .int)) 9 am_t_X9_drawn_9 = true := by decide +kernel
theorem am_q_X9_drawn_10 : am_okQ (am_ok1 am_mt yX9_drawn.cls yX9_drawn.name cX9_drawn 9 (some .int)) 10 am_t_X9_drawn_10 = true := by decide +kernel
theorem am_q_X9_drawn : am_okT (am_ok1 am_mt yX9_drawn.cls yX9_drawn.name cX9_drawn 9 (some .int)) 0 am_t_X9_drawn = true := am_okT_c am_q_X9_drawn_0 (am_okT_c am_q_X9_drawn_1 (am_okT_c am_q_X9_drawn_2 (am_okT_c am_q_X9_drawn_3 (am_okT_c am_q_X9_drawn_4 (am_okT_c am_q_X9_drawn_5 (am_okT_c am_q_X9_drawn_6 (am_okT_c am_q_X9_drawn_7 (am_okT_c am_q_X9_drawn_8 (am_okT_c am_q_X9_drawn_9 (am_okT_c am_q_X9_drawn_10 (rfl)))))))))))
def am_m_X9_drawn : am_M := (yX9_drawn, cX9_drawn, 9, (some .int), 1, 1254, 90, 1252, 1253, 3, am_t_X9_drawn)
theorem am_k_X9_drawn : am_okM am_mt am_m_X9_drawn := ⟨by decide +kernel, am_q_X9_drawn⟩
def am_t_X9_image_0 : List (Option am_I) := [some (.iload_n 1, 1, 0, 1, 0, 0, 0, 0, []), some (.i2l, 2, 0, 0, 0, 0, 0, 0, []), some (.lconst 0, 3, 0, 0, 0, 0, 0, 0, []), some (.lconst 1, 4, 0, 0, 0, 0, 0, 1, []), some (.invokestatic 48, 7, 0, 137, 3, 966, 0, 0, []), none, none, some (.ifCond .ne 6, 10, 13, 0, 0, 0, 0, 0, []), none, none, some (.ldc 58, 12, 0, 0, 0, 970, (-1000001), 0, []), none, some (.ireturn, 13, 0, 0, 0, 0, 0, 0, []), some (.aload_n 0, 14, 0, 0, 0, 0, 0, 0, []), some (.getfield 136, 17, 0, 9, 1, 900, 0, 0, []), none]
def am_t_X9_image_1 : List (Option am_I) := [none, some (.ifCond .ne 6, 20, 23, 0, 0, 0, 0, 0, []), none, none, some (.ldc 143, 22, 0, 0, 0, 1067, (-1000002), 0, []), none, some (.ireturn, 23, 0, 0, 0, 0, 0, 0, []), some (.aload_n 0, 24, 0, 0, 0, 0, 0, 0, []), some (.iconst 0, 25, 0, 0, 0, 0, 0, 0, []), some (.sipush 525, 28, 0, 0, 0, 0, 525, 0, []), none, none, some (.bipush 21, 30, 0, 0, 0, 0, 21, 0, []), none, some (.iload_n 1, 31, 0, 1, 0, 0, 0, 0, []), some (.imul, 32, 0, 0, 0, 0, 0, 0, [])]
def am_t_X9_image_2 : List (Option am_I) := [some (.iadd, 33, 0, 0, 0, 0, 0, 0, []), some (.invokevirtual 132, 36, 9, 164, 2, 1055, 0, 0, []), none, none, some (.aload_n 0, 37, 0, 0, 0, 0, 0, 0, []), some (.getfield 13, 40, 0, 9, 3, 902, 0, 0, []), none, none, some (.iload_n 1, 41, 0, 1, 0, 0, 0, 0, []), some (.iconst 1, 42, 0, 0, 0, 0, 1, 0, []), some (.bastore, 43, 0, 0, 0, 0, 0, 0, []), some (.iconst 1, 44, 0, 0, 0, 0, 1, 0, []), some (.ireturn, 45, 0, 0, 0, 0, 0, 0, [])]
def am_t_X9_image : am_T := [am_t_X9_image_0, am_t_X9_image_1, am_t_X9_image_2]
theorem am_q_X9_image_0 : am_okQ (am_ok1 am_mt yX9_image.cls yX9_image.name cX9_image 2 (some .int)) 0 am_t_X9_image_0 = true := by decide +kernel
theorem am_q_X9_image_1 : am_okQ (am_ok1 am_mt yX9_image.cls yX9_image.name cX9_image 2 (some .int)) 1 am_t_X9_image_1 = true := by decide +kernel
theorem am_q_X9_image_2 : am_okQ (am_ok1 am_mt yX9_image.cls yX9_image.name cX9_image 2 (some .int)) 2 am_t_X9_image_2 = true := by decide +kernel
theorem am_q_X9_image : am_okT (am_ok1 am_mt yX9_image.cls yX9_image.name cX9_image 2 (some .int)) 0 am_t_X9_image = true := am_okT_c am_q_X9_image_0 (am_okT_c am_q_X9_image_1 (am_okT_c am_q_X9_image_2 (rfl)))
def am_m_X9_image : am_M := (yX9_image, cX9_image, 2, (some .int), 1, 1263, 90, 1261, 1262, 1, am_t_X9_image)
theorem am_k_X9_image : am_okM am_mt am_m_X9_image := ⟨by decide +kernel, am_q_X9_image⟩
def am_t_X9_restore_0 : List (Option am_I) := [some (.iload_n 1, 1, 0, 1, 0, 0, 0, 0, []), some (.i2l, 2, 0, 0, 0, 0, 0, 0, []), some (.lconst 0, 3, 0, 0, 0, 0, 0, 0, []), some (.lconst 1, 4, 0, 0, 0, 0, 0, 1, []), some (.invokestatic 48, 7, 0, 137, 3, 966, 0, 0, []), none, none, some (.ifCond .ne 6, 10, 13, 0, 0, 0, 0, 0, []), none, none, some (.ldc 58, 12, 0, 0, 0, 970, (-1000001), 0, []), none, some (.ireturn, 13, 0, 0, 0, 0, 0, 0, []), some (.aload_n 0, 14, 0, 0, 0, 0, 0, 0, []), some (.getfield 13, 17, 0, 9, 3, 902, 0, 0, []), none]
def am_t_X9_restore_1 : List (Option am_I) := [none, some (.iload_n 1, 18, 0, 1, 0, 0, 0, 0, []), some (.baload, 19, 0, 0, 0, 0, 0, 0, []), some (.ifCond .ne 6, 22, 25, 0, 0, 0, 0, 0, []), none, none, some (.ldc 143, 24, 0, 0, 0, 1067, (-1000002), 0, []), none, some (.ireturn, 25, 0, 0, 0, 0, 0, 0, []), some (.aload_n 0, 26, 0, 0, 0, 0, 0, 0, []), some (.sipush 525, 29, 0, 0, 0, 0, 525, 0, []), none, none, some (.bipush 21, 31, 0, 0, 0, 0, 21, 0, []), none, some (.iload_n 1, 32, 0, 1, 0, 0, 0, 0, [])]
def am_t_X9_restore_2 : List (Option am_I) := [some (.imul, 33, 0, 0, 0, 0, 0, 0, []), some (.iadd, 34, 0, 0, 0, 0, 0, 0, []), some (.iconst 0, 35, 0, 0, 0, 0, 0, 0, []), some (.invokevirtual 132, 38, 9, 164, 2, 1055, 0, 0, []), none, none, some (.aload_n 0, 39, 0, 0, 0, 0, 0, 0, []), some (.iconst 0, 40, 0, 0, 0, 0, 0, 0, []), some (.putfield 140, 43, 0, 9, 2, 901, 0, 0, []), none, none, some (.iconst 1, 44, 0, 0, 0, 0, 1, 0, []), some (.ireturn, 45, 0, 0, 0, 0, 0, 0, [])]
def am_t_X9_restore : am_T := [am_t_X9_restore_0, am_t_X9_restore_1, am_t_X9_restore_2]
theorem am_q_X9_restore_0 : am_okQ (am_ok1 am_mt yX9_restore.cls yX9_restore.name cX9_restore 2 (some .int)) 0 am_t_X9_restore_0 = true := by decide +kernel
theorem am_q_X9_restore_1 : am_okQ (am_ok1 am_mt yX9_restore.cls yX9_restore.name cX9_restore 2 (some .int)) 1 am_t_X9_restore_1 = true := by decide +kernel
theorem am_q_X9_restore_2 : am_okQ (am_ok1 am_mt yX9_restore.cls yX9_restore.name cX9_restore 2 (some .int)) 2 am_t_X9_restore_2 = true := by decide +kernel
theorem am_q_X9_restore : am_okT (am_ok1 am_mt yX9_restore.cls yX9_restore.name cX9_restore 2 (some .int)) 0 am_t_X9_restore = true := am_okT_c am_q_X9_restore_0 (am_okT_c am_q_X9_restore_1 (am_okT_c am_q_X9_restore_2 (rfl)))
def am_m_X9_restore : am_M := (yX9_restore, cX9_restore, 2, (some .int), 1, 1267, 90, 1265, 1266, 1, am_t_X9_restore)
theorem am_k_X9_restore : am_okM am_mt am_m_X9_restore := ⟨by decide +kernel, am_q_X9_restore⟩
def am_t_X9_kind_0 : List (Option am_I) := [some (.aload_n 0, 1, 0, 0, 0, 0, 0, 0, []), some (.iload_n 1, 2, 0, 1, 0, 0, 0, 0, []), some (.invokevirtual 184, 5, 9, 167, 1, 1124, 0, 0, []), none, none, some (.ifCond .eq 15, 8, 20, 0, 0, 0, 0, 0, []), none, none, some (.aload_n 0, 9, 0, 0, 0, 0, 0, 0, []), some (.getfield 7, 12, 0, 9, 0, 899, 0, 0, []), none, none, some (.bipush 9, 14, 0, 0, 0, 0, 9, 0, []), none, some (.iload_n 1, 15, 0, 1, 0, 0, 0, 0, []), some (.iadd, 16, 0, 0, 0, 0, 0, 0, [])]
def am_t_X9_kind_1 : List (Option am_I) := [some (.iaload, 17, 0, 0, 0, 0, 0, 0, []), some (.goto 5, 20, 22, 0, 0, 0, 0, 0, []), none, none, some (.ldc 58, 22, 0, 0, 0, 970, (-1000001), 0, []), none, some (.ireturn, 23, 0, 0, 0, 0, 0, 0, [])]
def am_t_X9_kind : am_T := [am_t_X9_kind_0, am_t_X9_kind_1]
theorem am_q_X9_kind_0 : am_okQ (am_ok1 am_mt yX9_kind.cls yX9_kind.name cX9_kind 2 (some .int)) 0 am_t_X9_kind_0 = true := by decide +kernel
theorem am_q_X9_kind_1 : am_okQ (am_ok1 am_mt yX9_kind.cls yX9_kind.name cX9_kind 2 (some .int)) 1 am_t_X9_kind_1 = true := by decide +kernel
theorem am_q_X9_kind : am_okT (am_ok1 am_mt yX9_kind.cls yX9_kind.name cX9_kind 2 (some .int)) 0 am_t_X9_kind = true := am_okT_c am_q_X9_kind_0 (am_okT_c am_q_X9_kind_1 (rfl))
def am_m_X9_kind : am_M := (yX9_kind, cX9_kind, 2, (some .int), 1, 1271, 90, 1269, 1270, 1, am_t_X9_kind)
theorem am_k_X9_kind : am_okM am_mt am_m_X9_kind := ⟨by decide +kernel, am_q_X9_kind⟩
def am_t_X9_isOf_0 : List (Option am_I) := [some (.aload_n 0, 1, 0, 0, 0, 0, 0, 0, []), some (.getfield 7, 4, 0, 9, 0, 899, 0, 0, []), none, none, some (.bipush 9, 6, 0, 0, 0, 0, 9, 0, []), none, some (.iload_n 1, 7, 0, 1, 0, 0, 0, 0, []), some (.iadd, 8, 0, 0, 0, 0, 0, 0, []), some (.iaload, 9, 0, 0, 0, 0, 0, 0, []), some (.istore_n 3, 10, 0, 3, 0, 0, 0, 0, []), some (.iload_n 2, 11, 0, 2, 0, 0, 0, 0, []), some (.ifCond .eq 33, 14, 44, 0, 0, 0, 0, 0, []), none, none, some (.iload_n 2, 15, 0, 2, 0, 0, 0, 0, []), some (.iload_n 3, 16, 0, 3, 0, 0, 0, 0, [])]
def am_t_X9_isOf_1 : List (Option am_I) := [some (.if_icmp .eq 28, 19, 44, 0, 0, 0, 0, 0, []), none, none, some (.iload_n 2, 20, 0, 2, 0, 0, 0, 0, []), some (.iconst 1, 21, 0, 0, 0, 0, 1, 0, []), some (.if_icmp .ne 13, 24, 34, 0, 0, 0, 0, 0, []), none, none, some (.iload_n 3, 25, 0, 3, 0, 0, 0, 0, []), some (.iconst 2, 26, 0, 0, 0, 0, 2, 0, []), some (.if_icmp .eq 18, 29, 44, 0, 0, 0, 0, 0, []), none, none, some (.iload_n 3, 30, 0, 3, 0, 0, 0, 0, []), some (.iconst 3, 31, 0, 0, 0, 0, 3, 0, []), some (.if_icmp .eq 13, 34, 44, 0, 0, 0, 0, 0, [])]
def am_t_X9_isOf_2 : List (Option am_I) := [none, none, some (.iload_n 2, 35, 0, 2, 0, 0, 0, 0, []), some (.iconst 4, 36, 0, 0, 0, 0, 4, 0, []), some (.if_icmp .ne 12, 39, 48, 0, 0, 0, 0, 0, []), none, none, some (.iload_n 3, 40, 0, 3, 0, 0, 0, 0, []), some (.iconst 5, 41, 0, 0, 0, 0, 5, 0, []), some (.if_icmp .ne 7, 44, 48, 0, 0, 0, 0, 0, []), none, none, some (.iconst 1, 45, 0, 0, 0, 0, 1, 0, []), some (.goto 4, 48, 49, 0, 0, 0, 0, 0, []), none, none]
def am_t_X9_isOf_3 : List (Option am_I) := [some (.iconst 0, 49, 0, 0, 0, 0, 0, 0, []), some (.ireturn, 50, 1, 0, 0, 0, 0, 0, [])]
def am_t_X9_isOf : am_T := [am_t_X9_isOf_0, am_t_X9_isOf_1, am_t_X9_isOf_2, am_t_X9_isOf_3]
theorem am_q_X9_isOf_0 : am_okQ (am_ok1 am_mt yX9_isOf.cls yX9_isOf.name cX9_isOf 4 (some .boolean)) 0 am_t_X9_isOf_0 = true := by decide +kernel
theorem am_q_X9_isOf_1 : am_okQ (am_ok1 am_mt yX9_isOf.cls yX9_isOf.name cX9_isOf 4 (some .boolean)) 1 am_t_X9_isOf_1 = true := by decide +kernel
theorem am_q_X9_isOf_2 : am_okQ (am_ok1 am_mt yX9_isOf.cls yX9_isOf.name cX9_isOf 4 (some .boolean)) 2 am_t_X9_isOf_2 = true := by decide +kernel
theorem am_q_X9_isOf_3 : am_okQ (am_ok1 am_mt yX9_isOf.cls yX9_isOf.name cX9_isOf 4 (some .boolean)) 3 am_t_X9_isOf_3 = true := by decide +kernel
theorem am_q_X9_isOf : am_okT (am_ok1 am_mt yX9_isOf.cls yX9_isOf.name cX9_isOf 4 (some .boolean)) 0 am_t_X9_isOf = true := am_okT_c am_q_X9_isOf_0 (am_okT_c am_q_X9_isOf_1 (am_okT_c am_q_X9_isOf_2 (am_okT_c am_q_X9_isOf_3 (rfl))))
def am_m_X9_isOf : am_M := (yX9_isOf, cX9_isOf, 4, (some .boolean), 1, 1280, 90, 1279, 70, 2, am_t_X9_isOf)
theorem am_k_X9_isOf : am_okM am_mt am_m_X9_isOf := ⟨by decide +kernel, am_q_X9_isOf⟩
def am_t_X9_as_0 : List (Option am_I) := [some (.aload_n 0, 1, 0, 0, 0, 0, 0, 0, []), some (.iload_n 1, 2, 0, 1, 0, 0, 0, 0, []), some (.invokevirtual 184, 5, 9, 167, 1, 1124, 0, 0, []), none, none, some (.ifCond .eq 15, 8, 20, 0, 0, 0, 0, 0, []), none, none, some (.iload_n 2, 9, 0, 2, 0, 0, 0, 0, []), some (.i2l, 10, 0, 0, 0, 0, 0, 0, []), some (.lconst 0, 11, 0, 0, 0, 0, 0, 0, []), some (.ldc2_w 257, 14, 0, 0, 0, 1276, 0, 5, []), none, none, some (.invokestatic 48, 17, 0, 137, 3, 966, 0, 0, []), none]
def am_t_X9_as_1 : List (Option am_I) := [none, some (.ifCond .ne 6, 20, 23, 0, 0, 0, 0, 0, []), none, none, some (.ldc 58, 22, 0, 0, 0, 970, (-1000001), 0, []), none, some (.ireturn, 23, 0, 0, 0, 0, 0, 0, []), some (.aload_n 0, 24, 0, 0, 0, 0, 0, 0, []), some (.iload_n 1, 25, 0, 1, 0, 0, 0, 0, []), some (.iload_n 2, 26, 0, 2, 0, 0, 0, 0, []), some (.invokevirtual 259, 29, 9, 212, 2, 1277, 0, 0, []), none, none, some (.ifCond .eq 11, 32, 40, 0, 0, 0, 0, 0, []), none, none]
def am_t_X9_as_2 : List (Option am_I) := [some (.aload_n 0, 33, 0, 0, 0, 0, 0, 0, []), some (.iload_n 1, 34, 0, 1, 0, 0, 0, 0, []), some (.invokevirtual 63, 37, 9, 142, 1, 976, 0, 0, []), none, none, some (.goto 8, 40, 45, 0, 0, 0, 0, 0, []), none, none, some (.aload_n 0, 41, 0, 0, 0, 0, 0, 0, []), some (.iconst 3, 42, 0, 0, 0, 0, 3, 0, []), some (.invokevirtual 59, 45, 9, 141, 1, 971, 0, 0, []), none, none, some (.ireturn, 46, 0, 0, 0, 0, 0, 0, [])]
def am_t_X9_as : am_T := [am_t_X9_as_0, am_t_X9_as_1, am_t_X9_as_2]
theorem am_q_X9_as_0 : am_okQ (am_ok1 am_mt yX9_as.cls yX9_as.name cX9_as 3 (some .int)) 0 am_t_X9_as_0 = true := by decide +kernel
theorem am_q_X9_as_1 : am_okQ (am_ok1 am_mt yX9_as.cls yX9_as.name cX9_as 3 (some .int)) 1 am_t_X9_as_1 = true := by decide +kernel
theorem am_q_X9_as_2 : am_okQ (am_ok1 am_mt yX9_as.cls yX9_as.name cX9_as 3 (some .int)) 2 am_t_X9_as_2 = true := by decide +kernel
theorem am_q_X9_as : am_okT (am_ok1 am_mt yX9_as.cls yX9_as.name cX9_as 3 (some .int)) 0 am_t_X9_as = true := am_okT_c am_q_X9_as_0 (am_okT_c am_q_X9_as_1 (am_okT_c am_q_X9_as_2 (rfl)))
def am_m_X9_as : am_M := (yX9_as, cX9_as, 3, (some .int), 1, 1275, 90, 1273, 1274, 2, am_t_X9_as)
theorem am_k_X9_as : am_okM am_mt am_m_X9_as := ⟨by decide +kernel, am_q_X9_as⟩
def am_t_X9_begin_0 : List (Option am_I) := [some (.aload_n 0, 1, 0, 0, 0, 0, 0, 0, []), some (.getfield 262, 4, 0, 9, 12, 911, 0, 0, []), none, none, some (.bipush 16, 6, 0, 0, 0, 0, 16, 0, []), none, some (.if_icmp .ge 23, 9, 29, 0, 0, 0, 0, 0, []), none, none, some (.aload_n 0, 10, 0, 0, 0, 0, 0, 0, []), some (.getfield 29, 13, 0, 9, 11, 910, 0, 0, []), none, none, some (.aload_n 0, 14, 0, 0, 0, 0, 0, 0, []), some (.getfield 262, 17, 0, 9, 12, 911, 0, 0, []), none]
def am_t_X9_begin_1 : List (Option am_I) := [none, some (.iload_n 1, 18, 0, 1, 0, 0, 0, 0, []), some (.iastore, 19, 0, 0, 0, 0, 0, 0, []), some (.aload_n 0, 20, 0, 0, 0, 0, 0, 0, []), some (.dup, 21, 0, 0, 0, 0, 0, 0, []), some (.getfield 262, 24, 0, 9, 12, 911, 0, 0, []), none, none, some (.iconst 1, 25, 0, 0, 0, 0, 1, 0, []), some (.iadd, 26, 0, 0, 0, 0, 0, 0, []), some (.putfield 262, 29, 0, 9, 12, 911, 0, 0, []), none, none, some (.return_, 30, 0, 0, 0, 0, 0, 0, [])]
def am_t_X9_begin : am_T := [am_t_X9_begin_0, am_t_X9_begin_1]
theorem am_q_X9_begin_0 : am_okQ (am_ok1 am_mt yX9_begin.cls yX9_begin.name cX9_begin 2 none) 0 am_t_X9_begin_0 = true := by decide +kernel
theorem am_q_X9_begin_1 : am_okQ (am_ok1 am_mt yX9_begin.cls yX9_begin.name cX9_begin 2 none) 1 am_t_X9_begin_1 = true := by decide +kernel
theorem am_q_X9_begin : am_okT (am_ok1 am_mt yX9_begin.cls yX9_begin.name cX9_begin 2 none) 0 am_t_X9_begin = true := am_okT_c am_q_X9_begin_0 (am_okT_c am_q_X9_begin_1 (rfl))
def am_m_X9_begin : am_M := (yX9_begin, cX9_begin, 2, none, 1, 1292, 90, 1291, 72, 1, am_t_X9_begin)
theorem am_k_X9_begin : am_okM am_mt am_m_X9_begin := ⟨by decide +kernel, am_q_X9_begin⟩
def am_t_X9_lentSize_0 : List (Option am_I) := [some (.aload_n 0, 1, 0, 0, 0, 0, 0, 0, []), some (.bipush 10, 3, 0, 0, 0, 0, 10, 0, []), none, some (.invokevirtual 265, 6, 9, 214, 1, 1289, 0, 0, []), none, none, some (.aload_n 0, 7, 0, 0, 0, 0, 0, 0, []), some (.getfield 7, 10, 0, 9, 0, 899, 0, 0, []), none, none, some (.bipush 17, 12, 0, 0, 0, 0, 17, 0, []), none, some (.iload_n 1, 13, 0, 1, 0, 0, 0, 0, []), some (.iadd, 14, 0, 0, 0, 0, 0, 0, []), some (.iaload, 15, 0, 0, 0, 0, 0, 0, []), some (.ireturn, 16, 0, 0, 0, 0, 0, 0, [])]
def am_t_X9_lentSize : am_T := [am_t_X9_lentSize_0]
theorem am_q_X9_lentSize_0 : am_okQ (am_ok1 am_mt yX9_lentSize.cls yX9_lentSize.name cX9_lentSize 2 (some .int)) 0 am_t_X9_lentSize_0 = true := by decide +kernel
theorem am_q_X9_lentSize : am_okT (am_ok1 am_mt yX9_lentSize.cls yX9_lentSize.name cX9_lentSize 2 (some .int)) 0 am_t_X9_lentSize = true := am_okT_c am_q_X9_lentSize_0 (rfl)
def am_m_X9_lentSize : am_M := (yX9_lentSize, cX9_lentSize, 2, (some .int), 1, 1300, 90, 1299, 74, 1, am_t_X9_lentSize)
theorem am_k_X9_lentSize : am_okM am_mt am_m_X9_lentSize := ⟨by decide +kernel, am_q_X9_lentSize⟩
def am_t_X9_plainSize_0 : List (Option am_I) := [some (.aload_n 0, 1, 0, 0, 0, 0, 0, 0, []), some (.bipush 11, 3, 0, 0, 0, 0, 11, 0, []), none, some (.invokevirtual 265, 6, 9, 214, 1, 1289, 0, 0, []), none, none, some (.aload_n 0, 7, 0, 0, 0, 0, 0, 0, []), some (.iload_n 1, 8, 0, 1, 0, 0, 0, 0, []), some (.invokevirtual 269, 11, 9, 215, 1, 1297, 0, 0, []), none, none, some (.istore_n 2, 12, 0, 2, 0, 0, 0, 0, []), some (.iload_n 2, 13, 0, 2, 0, 0, 0, 0, []), some (.aload_n 0, 14, 0, 0, 0, 0, 0, 0, []), some (.iload_n 1, 15, 0, 1, 0, 0, 0, 0, []), some (.invokevirtual 272, 18, 9, 221, 1, 1301, 0, 0, [])]
def am_t_X9_plainSize_1 : List (Option am_I) := [none, none, some (.iadd, 19, 0, 0, 0, 0, 0, 0, []), some (.ireturn, 20, 0, 0, 0, 0, 0, 0, [])]
def am_t_X9_plainSize : am_T := [am_t_X9_plainSize_0, am_t_X9_plainSize_1]
theorem am_q_X9_plainSize_0 : am_okQ (am_ok1 am_mt yX9_plainSize.cls yX9_plainSize.name cX9_plainSize 3 (some .int)) 0 am_t_X9_plainSize_0 = true := by decide +kernel
theorem am_q_X9_plainSize_1 : am_okQ (am_ok1 am_mt yX9_plainSize.cls yX9_plainSize.name cX9_plainSize 3 (some .int)) 1 am_t_X9_plainSize_1 = true := by decide +kernel
theorem am_q_X9_plainSize : am_okT (am_ok1 am_mt yX9_plainSize.cls yX9_plainSize.name cX9_plainSize 3 (some .int)) 0 am_t_X9_plainSize = true := am_okT_c am_q_X9_plainSize_0 (am_okT_c am_q_X9_plainSize_1 (rfl))
def am_m_X9_plainSize : am_M := (yX9_plainSize, cX9_plainSize, 3, (some .int), 1, 1296, 90, 1295, 73, 1, am_t_X9_plainSize)
theorem am_k_X9_plainSize : am_okM am_mt am_m_X9_plainSize := ⟨by decide +kernel, am_q_X9_plainSize⟩
def am_t_X9_mildSize_0 : List (Option am_I) := [some (.aload_n 0, 1, 0, 0, 0, 0, 0, 0, []), some (.bipush 13, 3, 0, 0, 0, 0, 13, 0, []), none, some (.invokevirtual 265, 6, 9, 214, 1, 1289, 0, 0, []), none, none, some (.aload_n 0, 7, 0, 0, 0, 0, 0, 0, []), some (.iload_n 1, 8, 0, 1, 0, 0, 0, 0, []), some (.invokevirtual 269, 11, 9, 215, 1, 1297, 0, 0, []), none, none, some (.bipush 100, 13, 0, 0, 0, 0, 100, 0, []), none, some (.isub, 14, 0, 0, 0, 0, 0, 0, []), some (.ireturn, 15, 0, 0, 0, 0, 0, 0, [])]
def am_t_X9_mildSize : am_T := [am_t_X9_mildSize_0]
theorem am_q_X9_mildSize_0 : am_okQ (am_ok1 am_mt yX9_mildSize.cls yX9_mildSize.name cX9_mildSize 2 (some .int)) 0 am_t_X9_mildSize_0 = true := by decide +kernel
theorem am_q_X9_mildSize : am_okT (am_ok1 am_mt yX9_mildSize.cls yX9_mildSize.name cX9_mildSize 2 (some .int)) 0 am_t_X9_mildSize = true := am_okT_c am_q_X9_mildSize_0 (rfl)
def am_m_X9_mildSize : am_M := (yX9_mildSize, cX9_mildSize, 2, (some .int), 1, 1316, 90, 1315, 78, 1, am_t_X9_mildSize)
theorem am_k_X9_mildSize : am_okM am_mt am_m_X9_mildSize := ⟨by decide +kernel, am_q_X9_mildSize⟩
def am_t_X9_sizeOf_0 : List (Option am_I) := [some (.aload_n 0, 1, 0, 0, 0, 0, 0, 0, []), some (.getfield 7, 4, 0, 9, 0, 899, 0, 0, []), none, none, some (.bipush 9, 6, 0, 0, 0, 0, 9, 0, []), none, some (.iload_n 1, 7, 0, 1, 0, 0, 0, 0, []), some (.iadd, 8, 0, 0, 0, 0, 0, 0, []), some (.iaload, 9, 0, 0, 0, 0, 0, 0, []), some (.tableswitch 64 2 5 #[31, 64, 44, 50], 40, 73, 0, 0, 0, 0, 0, [(2, 40), (3, 73), (4, 53), (5, 59)]), none, none, none, none, none, none]
def am_t_X9_sizeOf_1 : List (Option am_I) := [none, none, none, none, none, none, none, none, none, none, none, none, none, none, none, none]
def am_t_X9_sizeOf_2 : List (Option am_I) := [none, none, none, none, none, none, none, none, some (.aload_n 0, 41, 0, 0, 0, 0, 0, 0, []), some (.bipush 12, 43, 0, 0, 0, 0, 12, 0, []), none, some (.invokevirtual 265, 46, 9, 214, 1, 1289, 0, 0, []), none, none, some (.aload_n 0, 47, 0, 0, 0, 0, 0, 0, []), some (.iload_n 1, 48, 0, 1, 0, 0, 0, 0, [])]
def am_t_X9_sizeOf_3 : List (Option am_I) := [some (.invokevirtual 275, 51, 9, 216, 1, 1293, 0, 0, []), none, none, some (.ineg, 52, 0, 0, 0, 0, 0, 0, []), some (.ireturn, 53, 0, 0, 0, 0, 0, 0, []), some (.aload_n 0, 54, 0, 0, 0, 0, 0, 0, []), some (.iload_n 1, 55, 0, 1, 0, 0, 0, 0, []), some (.invokevirtual 278, 58, 9, 217, 1, 1313, 0, 0, []), none, none, some (.ireturn, 59, 0, 0, 0, 0, 0, 0, []), some (.aload_n 0, 60, 0, 0, 0, 0, 0, 0, []), some (.bipush 14, 62, 0, 0, 0, 0, 14, 0, []), none, some (.invokevirtual 265, 65, 9, 214, 1, 1289, 0, 0, []), none]
def am_t_X9_sizeOf_4 : List (Option am_I) := [none, some (.iconst 2, 66, 0, 0, 0, 0, 2, 0, []), some (.aload_n 0, 67, 0, 0, 0, 0, 0, 0, []), some (.iload_n 1, 68, 0, 1, 0, 0, 0, 0, []), some (.invokevirtual 278, 71, 9, 217, 1, 1313, 0, 0, []), none, none, some (.imul, 72, 0, 0, 0, 0, 0, 0, []), some (.ireturn, 73, 0, 0, 0, 0, 0, 0, []), some (.aload_n 0, 74, 0, 0, 0, 0, 0, 0, []), some (.iload_n 1, 75, 0, 1, 0, 0, 0, 0, []), some (.invokevirtual 275, 78, 9, 216, 1, 1293, 0, 0, []), none, none, some (.ireturn, 79, 0, 0, 0, 0, 0, 0, [])]
def am_t_X9_sizeOf : am_T := [am_t_X9_sizeOf_0, am_t_X9_sizeOf_1, am_t_X9_sizeOf_2, am_t_X9_sizeOf_3, am_t_X9_sizeOf_4]
theorem am_q_X9_sizeOf_0 : am_okQ (am_ok1 am_mt yX9_sizeOf.cls yX9_sizeOf.name cX9_sizeOf 2 (some .int)) 0 am_t_X9_sizeOf_0 = true := by decide +kernel
theorem am_q_X9_sizeOf_1 : am_okQ (am_ok1 am_mt yX9_sizeOf.cls yX9_sizeOf.name cX9_sizeOf 2 (some .int)) 1 am_t_X9_sizeOf_1 = true := by decide +kernel
theorem am_q_X9_sizeOf_2 : am_okQ (am_ok1 am_mt yX9_sizeOf.cls yX9_sizeOf.name cX9_sizeOf 2 (some .int)) 2 am_t_X9_sizeOf_2 = true := by decide +kernel
theorem am_q_X9_sizeOf_3 : am_okQ (am_ok1 am_mt yX9_sizeOf.cls yX9_sizeOf.name cX9_sizeOf 2 (some .int)) 3 am_t_X9_sizeOf_3 = true := by decide +kernel
theorem am_q_X9_sizeOf_4 : am_okQ (am_ok1 am_mt yX9_sizeOf.cls yX9_sizeOf.name cX9_sizeOf 2 (some .int)) 4 am_t_X9_sizeOf_4 = true := by decide +kernel
theorem am_q_X9_sizeOf : am_okT (am_ok1 am_mt yX9_sizeOf.cls yX9_sizeOf.name cX9_sizeOf 2 (some .int)) 0 am_t_X9_sizeOf = true := am_okT_c am_q_X9_sizeOf_0 (am_okT_c am_q_X9_sizeOf_1 (am_okT_c am_q_X9_sizeOf_2 (am_okT_c am_q_X9_sizeOf_3 (am_okT_c am_q_X9_sizeOf_4 (rfl)))))
def am_m_X9_sizeOf : am_M := (yX9_sizeOf, cX9_sizeOf, 2, (some .int), 1, 1288, 90, 1287, 71, 1, am_t_X9_sizeOf)
theorem am_k_X9_sizeOf : am_okM am_mt am_m_X9_sizeOf := ⟨by decide +kernel, am_q_X9_sizeOf⟩
def am_t_X9_lentMark_0 : List (Option am_I) := [some (.aload_n 0, 1, 0, 0, 0, 0, 0, 0, []), some (.bipush 20, 3, 0, 0, 0, 0, 20, 0, []), none, some (.invokevirtual 265, 6, 9, 214, 1, 1289, 0, 0, []), none, none, some (.iload_n 1, 7, 0, 1, 0, 0, 0, 0, []), some (.ireturn, 8, 0, 0, 0, 0, 0, 0, [])]
def am_t_X9_lentMark : am_T := [am_t_X9_lentMark_0]
theorem am_q_X9_lentMark_0 : am_okQ (am_ok1 am_mt yX9_lentMark.cls yX9_lentMark.name cX9_lentMark 2 (some .int)) 0 am_t_X9_lentMark_0 = true := by decide +kernel
theorem am_q_X9_lentMark : am_okT (am_ok1 am_mt yX9_lentMark.cls yX9_lentMark.name cX9_lentMark 2 (some .int)) 0 am_t_X9_lentMark = true := am_okT_c am_q_X9_lentMark_0 (rfl)
def am_m_X9_lentMark : am_M := (yX9_lentMark, cX9_lentMark, 2, (some .int), 1, 1312, 90, 1311, 77, 1, am_t_X9_lentMark)
theorem am_k_X9_lentMark : am_okM am_mt am_m_X9_lentMark := ⟨by decide +kernel, am_q_X9_lentMark⟩
def am_t_X9_plainMark_0 : List (Option am_I) := [some (.aload_n 0, 1, 0, 0, 0, 0, 0, 0, []), some (.bipush 21, 3, 0, 0, 0, 0, 21, 0, []), none, some (.invokevirtual 265, 6, 9, 214, 1, 1289, 0, 0, []), none, none, some (.aload_n 0, 7, 0, 0, 0, 0, 0, 0, []), some (.iload_n 1, 8, 0, 1, 0, 0, 0, 0, []), some (.invokevirtual 281, 11, 9, 219, 1, 1309, 0, 0, []), none, none, some (.aload_n 0, 12, 0, 0, 0, 0, 0, 0, []), some (.getfield 7, 15, 0, 9, 0, 899, 0, 0, []), none, none, some (.bipush 13, 17, 0, 0, 0, 0, 13, 0, [])]
def am_t_X9_plainMark_1 : List (Option am_I) := [none, some (.iload_n 1, 18, 0, 1, 0, 0, 0, 0, []), some (.iadd, 19, 0, 0, 0, 0, 0, 0, []), some (.iaload, 20, 0, 0, 0, 0, 0, 0, []), some (.iadd, 21, 0, 0, 0, 0, 0, 0, []), some (.ireturn, 22, 0, 0, 0, 0, 0, 0, [])]
def am_t_X9_plainMark : am_T := [am_t_X9_plainMark_0, am_t_X9_plainMark_1]
theorem am_q_X9_plainMark_0 : am_okQ (am_ok1 am_mt yX9_plainMark.cls yX9_plainMark.name cX9_plainMark 2 (some .int)) 0 am_t_X9_plainMark_0 = true := by decide +kernel
theorem am_q_X9_plainMark_1 : am_okQ (am_ok1 am_mt yX9_plainMark.cls yX9_plainMark.name cX9_plainMark 2 (some .int)) 1 am_t_X9_plainMark_1 = true := by decide +kernel
theorem am_q_X9_plainMark : am_okT (am_ok1 am_mt yX9_plainMark.cls yX9_plainMark.name cX9_plainMark 2 (some .int)) 0 am_t_X9_plainMark = true := am_okT_c am_q_X9_plainMark_0 (am_okT_c am_q_X9_plainMark_1 (rfl))
def am_m_X9_plainMark : am_M := (yX9_plainMark, cX9_plainMark, 2, (some .int), 1, 1308, 90, 1307, 76, 1, am_t_X9_plainMark)
theorem am_k_X9_plainMark : am_okM am_mt am_m_X9_plainMark := ⟨by decide +kernel, am_q_X9_plainMark⟩
def am_t_X9_mark_0 : List (Option am_I) := [some (.aload_n 0, 1, 0, 0, 0, 0, 0, 0, []), some (.getfield 7, 4, 0, 9, 0, 899, 0, 0, []), none, none, some (.bipush 9, 6, 0, 0, 0, 0, 9, 0, []), none, some (.iload_n 1, 7, 0, 1, 0, 0, 0, 0, []), some (.iadd, 8, 0, 0, 0, 0, 0, 0, []), some (.iaload, 9, 0, 0, 0, 0, 0, 0, []), some (.lookupswitch 57 #[(2, 43), (3, 27)], 36, 66, 0, 0, 0, 0, 0, [(2, 52), (3, 36)]), none, none, none, none, none, none]
def am_t_X9_mark_1 : List (Option am_I) := [none, none, none, none, none, none, none, none, none, none, none, none, none, none, none, none]
def am_t_X9_mark_2 : List (Option am_I) := [none, none, none, none, some (.aload_n 0, 37, 0, 0, 0, 0, 0, 0, []), some (.bipush 22, 39, 0, 0, 0, 0, 22, 0, []), none, some (.invokevirtual 265, 42, 9, 214, 1, 1289, 0, 0, []), none, none, some (.aload_n 0, 43, 0, 0, 0, 0, 0, 0, []), some (.iload_n 1, 44, 0, 1, 0, 0, 0, 0, []), some (.invokevirtual 284, 47, 9, 220, 1, 1305, 0, 0, []), none, none, some (.sipush 1000, 50, 0, 0, 0, 0, 1000, 0, [])]
def am_t_X9_mark_3 : List (Option am_I) := [none, none, some (.isub, 51, 0, 0, 0, 0, 0, 0, []), some (.ireturn, 52, 0, 0, 0, 0, 0, 0, []), some (.aload_n 0, 53, 0, 0, 0, 0, 0, 0, []), some (.bipush 24, 55, 0, 0, 0, 0, 24, 0, []), none, some (.invokevirtual 265, 58, 9, 214, 1, 1289, 0, 0, []), none, none, some (.iconst 2, 59, 0, 0, 0, 0, 2, 0, []), some (.aload_n 0, 60, 0, 0, 0, 0, 0, 0, []), some (.iload_n 1, 61, 0, 1, 0, 0, 0, 0, []), some (.invokevirtual 284, 64, 9, 220, 1, 1305, 0, 0, []), none, none]
def am_t_X9_mark_4 : List (Option am_I) := [some (.imul, 65, 0, 0, 0, 0, 0, 0, []), some (.ireturn, 66, 0, 0, 0, 0, 0, 0, []), some (.aload_n 0, 67, 0, 0, 0, 0, 0, 0, []), some (.iload_n 1, 68, 0, 1, 0, 0, 0, 0, []), some (.invokevirtual 284, 71, 9, 220, 1, 1305, 0, 0, []), none, none, some (.ireturn, 72, 0, 0, 0, 0, 0, 0, [])]
def am_t_X9_mark : am_T := [am_t_X9_mark_0, am_t_X9_mark_1, am_t_X9_mark_2, am_t_X9_mark_3, am_t_X9_mark_4]
theorem am_q_X9_mark_0 : am_okQ (am_ok1 am_mt yX9_mark.cls yX9_mark.name cX9_mark 2 (some .int)) 0 am_t_X9_mark_0 = true := by decide +kernel
theorem am_q_X9_mark_1 : am_okQ (am_ok1 am_mt yX9_mark.cls yX9_mark.name cX9_mark 2 (some .int)) 1 am_t_X9_mark_1 = true := by decide +kernel
theorem am_q_X9_mark_2 : am_okQ (am_ok1 am_mt yX9_mark.cls yX9_mark.name cX9_mark 2 (some .int)) 2 am_t_X9_mark_2 = true := by decide +kernel
theorem am_q_X9_mark_3 : am_okQ (am_ok1 am_mt yX9_mark.cls yX9_mark.name cX9_mark 2 (some .int)) 3 am_t_X9_mark_3 = true := by decide +kernel
theorem am_q_X9_mark_4 : am_okQ (am_ok1 am_mt yX9_mark.cls yX9_mark.name cX9_mark 2 (some .int)) 4 am_t_X9_mark_4 = true := by decide +kernel
theorem am_q_X9_mark : am_okT (am_ok1 am_mt yX9_mark.cls yX9_mark.name cX9_mark 2 (some .int)) 0 am_t_X9_mark = true := am_okT_c am_q_X9_mark_0 (am_okT_c am_q_X9_mark_1 (am_okT_c am_q_X9_mark_2 (am_okT_c am_q_X9_mark_3 (am_okT_c am_q_X9_mark_4 (rfl)))))
def am_m_X9_mark : am_M := (yX9_mark, cX9_mark, 2, (some .int), 1, 1304, 90, 1303, 75, 1, am_t_X9_mark)
theorem am_k_X9_mark : am_okM am_mt am_m_X9_mark := ⟨by decide +kernel, am_q_X9_mark⟩
def am_ms9 : List am_M := [am_m_X9_noItems, am_m_X9_isSo, am_m_X9_fits, am_m_X9_costs, am_m_X9_colds, am_m_X9_drawn, am_m_X9_image, am_m_X9_restore, am_m_X9_kind, am_m_X9_isOf, am_m_X9_as, am_m_X9_begin, am_m_X9_lentSize, am_m_X9_plainSize, am_m_X9_mildSize, am_m_X9_sizeOf, am_m_X9_lentMark, am_m_X9_plainMark, am_m_X9_mark]
theorem am_ms9_ok : ∀ M ∈ am_ms9, am_okM am_mt M := List.forall_mem_cons.mpr ⟨am_k_X9_noItems, List.forall_mem_cons.mpr ⟨am_k_X9_isSo, List.forall_mem_cons.mpr ⟨am_k_X9_fits, List.forall_mem_cons.mpr ⟨am_k_X9_costs, List.forall_mem_cons.mpr ⟨am_k_X9_colds, List.forall_mem_cons.mpr ⟨am_k_X9_drawn, List.forall_mem_cons.mpr ⟨am_k_X9_image, List.forall_mem_cons.mpr ⟨am_k_X9_restore, List.forall_mem_cons.mpr ⟨am_k_X9_kind, List.forall_mem_cons.mpr ⟨am_k_X9_isOf, List.forall_mem_cons.mpr ⟨am_k_X9_as, List.forall_mem_cons.mpr ⟨am_k_X9_begin, List.forall_mem_cons.mpr ⟨am_k_X9_lentSize, List.forall_mem_cons.mpr ⟨am_k_X9_plainSize, List.forall_mem_cons.mpr ⟨am_k_X9_mildSize, List.forall_mem_cons.mpr ⟨am_k_X9_sizeOf, List.forall_mem_cons.mpr ⟨am_k_X9_lentMark, List.forall_mem_cons.mpr ⟨am_k_X9_plainMark, List.forall_mem_cons.mpr ⟨am_k_X9_mark, fun _ h => absurd h List.not_mem_nil⟩⟩⟩⟩⟩⟩⟩⟩⟩⟩⟩⟩⟩⟩⟩⟩⟩⟩⟩
end
section
def am_t_X9_mildMark_0 : List (Option am_I) := [some (.aload_n 0, 1, 0, 0, 0, 0, 0, 0, []), some (.bipush 23, 3, 0, 0, 0, 0, 23, 0, []), none, some (.invokevirtual 265, 6, 9, 214, 1, 1289, 0, 0, []), none, none, some (.aload_n 0, 7, 0, 0, 0, 0, 0, 0, []), some (.iload_n 1, 8, 0, 1, 0, 0, 0, 0, []), some (.invokevirtual 281, 11, 9, 219, 1, 1309, 0, 0, []), none, none, some (.istore_n 2, 12, 0, 2, 0, 0, 0, 0, []), some (.iload_n 2, 13, 0, 2, 0, 0, 0, 0, []), some (.aload_n 0, 14, 0, 0, 0, 0, 0, 0, []), some (.iload_n 1, 15, 0, 1, 0, 0, 0, 0, []), some (.invokevirtual 287, 18, 9, 218, 1, 1285, 0, 0, [])]
def am_t_X9_mildMark_1 : List (Option am_I) := [none, none, some (.isub, 19, 0, 0, 0, 0, 0, 0, []), some (.ireturn, 20, 0, 0, 0, 0, 0, 0, [])]
def am_t_X9_mildMark : am_T := [am_t_X9_mildMark_0, am_t_X9_mildMark_1]
theorem am_q_X9_mildMark_0 : am_okQ (am_ok1 am_mt yX9_mildMark.cls yX9_mildMark.name cX9_mildMark 3 (some .int)) 0 am_t_X9_mildMark_0 = true := by decide +kernel
theorem am_q_X9_mildMark_1 : am_okQ (am_ok1 am_mt yX9_mildMark.cls yX9_mildMark.name cX9_mildMark 3 (some .int)) 1 am_t_X9_mildMark_1 = true := by decide +kernel
theorem am_q_X9_mildMark : am_okT (am_ok1 am_mt yX9_mildMark.cls yX9_mildMark.name cX9_mildMark 3 (some .int)) 0 am_t_X9_mildMark = true := am_okT_c am_q_X9_mildMark_0 (am_okT_c am_q_X9_mildMark_1 (rfl))
def am_m_X9_mildMark : am_M := (yX9_mildMark, cX9_mildMark, 3, (some .int), 1, 1320, 90, 1319, 79, 1, am_t_X9_mildMark)
theorem am_k_X9_mildMark : am_okM am_mt am_m_X9_mildMark := ⟨by decide +kernel, am_q_X9_mildMark⟩
def am_t_X9_ask_0 : List (Option am_I) := [some (.aload_n 0, 1, 0, 0, 0, 0, 0, 0, []), some (.iload_n 1, 2, 0, 1, 0, 0, 0, 0, []), some (.invokevirtual 184, 5, 9, 167, 1, 1124, 0, 0, []), none, none, some (.ifCond .eq 13, 8, 18, 0, 0, 0, 0, 0, []), none, none, some (.iload_n 2, 9, 0, 2, 0, 0, 0, 0, []), some (.i2l, 10, 0, 0, 0, 0, 0, 0, []), some (.lconst 0, 11, 0, 0, 0, 0, 0, 0, []), some (.lconst 1, 12, 0, 0, 0, 0, 0, 1, []), some (.invokestatic 48, 15, 0, 137, 3, 966, 0, 0, []), none, none, some (.ifCond .ne 6, 18, 21, 0, 0, 0, 0, 0, [])]
def am_t_X9_ask_1 : List (Option am_I) := [none, none, some (.ldc 58, 20, 0, 0, 0, 970, (-1000001), 0, []), none, some (.ireturn, 21, 0, 0, 0, 0, 0, 0, []), some (.aload_n 0, 22, 0, 0, 0, 0, 0, 0, []), some (.iconst 0, 23, 0, 0, 0, 0, 0, 0, []), some (.putfield 262, 26, 0, 9, 12, 911, 0, 0, []), none, none, some (.iload_n 2, 27, 0, 2, 0, 0, 0, 0, []), some (.ifCond .ne 11, 30, 38, 0, 0, 0, 0, 0, []), none, none, some (.aload_n 0, 31, 0, 0, 0, 0, 0, 0, []), some (.iload_n 1, 32, 0, 1, 0, 0, 0, 0, [])]
def am_t_X9_ask_2 : List (Option am_I) := [some (.invokevirtual 287, 35, 9, 218, 1, 1285, 0, 0, []), none, none, some (.goto 25, 38, 60, 0, 0, 0, 0, 0, []), none, none, some (.aload_n 0, 39, 0, 0, 0, 0, 0, 0, []), some (.iload_n 1, 40, 0, 1, 0, 0, 0, 0, []), some (.iconst 4, 41, 0, 0, 0, 0, 4, 0, []), some (.invokevirtual 259, 44, 9, 212, 2, 1277, 0, 0, []), none, none, some (.ifCond .eq 11, 47, 55, 0, 0, 0, 0, 0, []), none, none, some (.aload_n 0, 48, 0, 0, 0, 0, 0, 0, [])]
def am_t_X9_ask_3 : List (Option am_I) := [some (.iload_n 1, 49, 0, 1, 0, 0, 0, 0, []), some (.invokevirtual 290, 52, 9, 222, 1, 1317, 0, 0, []), none, none, some (.goto 8, 55, 60, 0, 0, 0, 0, 0, []), none, none, some (.aload_n 0, 56, 0, 0, 0, 0, 0, 0, []), some (.iload_n 1, 57, 0, 1, 0, 0, 0, 0, []), some (.invokevirtual 272, 60, 9, 221, 1, 1301, 0, 0, []), none, none, some (.ireturn, 61, 0, 0, 0, 0, 0, 0, [])]
def am_t_X9_ask : am_T := [am_t_X9_ask_0, am_t_X9_ask_1, am_t_X9_ask_2, am_t_X9_ask_3]
theorem am_q_X9_ask_0 : am_okQ (am_ok1 am_mt yX9_ask.cls yX9_ask.name cX9_ask 3 (some .int)) 0 am_t_X9_ask_0 = true := by decide +kernel
theorem am_q_X9_ask_1 : am_okQ (am_ok1 am_mt yX9_ask.cls yX9_ask.name cX9_ask 3 (some .int)) 1 am_t_X9_ask_1 = true := by decide +kernel
theorem am_q_X9_ask_2 : am_okQ (am_ok1 am_mt yX9_ask.cls yX9_ask.name cX9_ask 3 (some .int)) 2 am_t_X9_ask_2 = true := by decide +kernel
theorem am_q_X9_ask_3 : am_okQ (am_ok1 am_mt yX9_ask.cls yX9_ask.name cX9_ask 3 (some .int)) 3 am_t_X9_ask_3 = true := by decide +kernel
theorem am_q_X9_ask : am_okT (am_ok1 am_mt yX9_ask.cls yX9_ask.name cX9_ask 3 (some .int)) 0 am_t_X9_ask = true := am_okT_c am_q_X9_ask_0 (am_okT_c am_q_X9_ask_1 (am_okT_c am_q_X9_ask_2 (am_okT_c am_q_X9_ask_3 (rfl))))
def am_m_X9_ask : am_M := (yX9_ask, cX9_ask, 3, (some .int), 1, 1284, 90, 1282, 1283, 2, am_t_X9_ask)
theorem am_k_X9_ask : am_okM am_mt am_m_X9_ask := ⟨by decide +kernel, am_q_X9_ask⟩
def am_t_X9_trace_0 : List (Option am_I) := [some (.iload_n 1, 1, 0, 1, 0, 0, 0, 0, []), some (.i2l, 2, 0, 0, 0, 0, 0, 0, []), some (.lconst 0, 3, 0, 0, 0, 0, 0, 0, []), some (.aload_n 0, 4, 0, 0, 0, 0, 0, 0, []), some (.getfield 262, 7, 0, 9, 12, 911, 0, 0, []), none, none, some (.iconst 1, 8, 0, 0, 0, 0, 1, 0, []), some (.isub, 9, 0, 0, 0, 0, 0, 0, []), some (.i2l, 10, 0, 0, 0, 0, 0, 0, []), some (.invokestatic 48, 13, 0, 137, 3, 966, 0, 0, []), none, none, some (.ifCond .eq 12, 16, 25, 0, 0, 0, 0, 0, []), none, none]
def am_t_X9_trace_1 : List (Option am_I) := [some (.aload_n 0, 17, 0, 0, 0, 0, 0, 0, []), some (.getfield 29, 20, 0, 9, 11, 910, 0, 0, []), none, none, some (.iload_n 1, 21, 0, 1, 0, 0, 0, 0, []), some (.iaload, 22, 0, 0, 0, 0, 0, 0, []), some (.goto 5, 25, 27, 0, 0, 0, 0, 0, []), none, none, some (.ldc 200, 27, 0, 0, 0, 1168, (-1000000), 0, []), none, some (.ireturn, 28, 0, 0, 0, 0, 0, 0, [])]
def am_t_X9_trace : am_T := [am_t_X9_trace_0, am_t_X9_trace_1]
theorem am_q_X9_trace_0 : am_okQ (am_ok1 am_mt yX9_trace.cls yX9_trace.name cX9_trace 2 (some .int)) 0 am_t_X9_trace_0 = true := by decide +kernel
theorem am_q_X9_trace_1 : am_okQ (am_ok1 am_mt yX9_trace.cls yX9_trace.name cX9_trace 2 (some .int)) 1 am_t_X9_trace_1 = true := by decide +kernel
theorem am_q_X9_trace : am_okT (am_ok1 am_mt yX9_trace.cls yX9_trace.name cX9_trace 2 (some .int)) 0 am_t_X9_trace = true := am_okT_c am_q_X9_trace_0 (am_okT_c am_q_X9_trace_1 (rfl))
def am_m_X9_trace : am_M := (yX9_trace, cX9_trace, 2, (some .int), 1, 1324, 90, 1322, 1323, 1, am_t_X9_trace)
theorem am_k_X9_trace : am_okM am_mt am_m_X9_trace := ⟨by decide +kernel, am_q_X9_trace⟩
def am_t_X9_count_0 : List (Option am_I) := [some (.iconst 0, 1, 0, 0, 0, 0, 0, 0, []), some (.istore_n 2, 2, 0, 2, 0, 0, 0, 0, []), some (.iload_n 1, 3, 0, 1, 0, 0, 0, 0, []), some (.tableswitch 133 0 8 #[49, 82, 89, 96, 103, 110, 116, 121, 126], 52, 136, 0, 0, 0, 0, 0, [(0, 52), (1, 85), (2, 92), (3, 99), (4, 106), (5, 113), (6, 119), (7, 124), (8, 129)]), none, none, none, none, none, none, none, none, none, none, none, none]
def am_t_X9_count_1 : List (Option am_I) := [none, none, none, none, none, none, none, none, none, none, none, none, none, none, none, none]
def am_t_X9_count_2 : List (Option am_I) := [none, none, none, none, none, none, none, none, none, none, none, none, none, none, none, none]
def am_t_X9_count_3 : List (Option am_I) := [none, none, none, none, some (.iconst 0, 53, 0, 0, 0, 0, 0, 0, []), some (.istore_n 3, 54, 0, 3, 0, 0, 0, 0, []), some (.iload_n 3, 55, 0, 3, 0, 0, 0, 0, []), some (.bipush 8, 57, 0, 0, 0, 0, 8, 0, []), none, some (.if_icmp .ge 26, 60, 83, 0, 0, 0, 0, 0, []), none, none, some (.iload_n 2, 61, 0, 2, 0, 0, 0, 0, []), some (.aload_n 0, 62, 0, 0, 0, 0, 0, 0, []), some (.getfield 20, 65, 0, 9, 5, 904, 0, 0, []), none]
def am_t_X9_count_4 : List (Option am_I) := [none, some (.iload_n 3, 66, 0, 3, 0, 0, 0, 0, []), some (.iaload, 67, 0, 0, 0, 0, 0, 0, []), some (.ifCond .ge 7, 70, 74, 0, 0, 0, 0, 0, []), none, none, some (.iconst 0, 71, 0, 0, 0, 0, 0, 0, []), some (.goto 4, 74, 75, 0, 0, 0, 0, 0, []), none, none, some (.iconst 1, 75, 0, 0, 0, 0, 1, 0, []), some (.iadd, 76, 0, 0, 0, 0, 0, 0, []), some (.istore_n 2, 77, 0, 2, 0, 0, 0, 0, []), some (.iinc 3 1, 80, 0, 3, 0, 0, 1, 0, []), none, none]
def am_t_X9_count_5 : List (Option am_I) := [some (.goto (-26), 83, 54, 0, 0, 0, 0, 0, []), none, none, some (.iload_n 2, 84, 0, 2, 0, 0, 0, 0, []), some (.ireturn, 85, 0, 0, 0, 0, 0, 0, []), some (.aload_n 0, 86, 0, 0, 0, 0, 0, 0, []), some (.getfield 7, 89, 0, 9, 0, 899, 0, 0, []), none, none, some (.iconst 0, 90, 0, 0, 0, 0, 0, 0, []), some (.iaload, 91, 0, 0, 0, 0, 0, 0, []), some (.ireturn, 92, 0, 0, 0, 0, 0, 0, []), some (.aload_n 0, 93, 0, 0, 0, 0, 0, 0, []), some (.getfield 7, 96, 0, 9, 0, 899, 0, 0, []), none, none]
def am_t_X9_count_6 : List (Option am_I) := [some (.iconst 1, 97, 0, 0, 0, 0, 1, 0, []), some (.iaload, 98, 0, 0, 0, 0, 0, 0, []), some (.ireturn, 99, 0, 0, 0, 0, 0, 0, []), some (.aload_n 0, 100, 0, 0, 0, 0, 0, 0, []), some (.getfield 7, 103, 0, 9, 0, 899, 0, 0, []), none, none, some (.iconst 3, 104, 0, 0, 0, 0, 3, 0, []), some (.iaload, 105, 0, 0, 0, 0, 0, 0, []), some (.ireturn, 106, 0, 0, 0, 0, 0, 0, []), some (.aload_n 0, 107, 0, 0, 0, 0, 0, 0, []), some (.getfield 7, 110, 0, 9, 0, 899, 0, 0, []), none, none, some (.iconst 2, 111, 0, 0, 0, 0, 2, 0, []), some (.iaload, 112, 0, 0, 0, 0, 0, 0, [])]
def am_t_X9_count_7 : List (Option am_I) := [some (.ireturn, 113, 0, 0, 0, 0, 0, 0, []), some (.aload_n 0, 114, 0, 0, 0, 0, 0, 0, []), some (.iconst 0, 115, 0, 0, 0, 0, 0, 0, []), some (.invokevirtual 150, 118, 9, 170, 1, 1076, 0, 0, []), none, none, some (.ireturn, 119, 0, 0, 0, 0, 0, 0, []), some (.aload_n 0, 120, 0, 0, 0, 0, 0, 0, []), some (.getfield 140, 123, 0, 9, 2, 901, 0, 0, []), none, none, some (.ireturn, 124, 0, 0, 0, 0, 0, 0, []), some (.aload_n 0, 125, 0, 0, 0, 0, 0, 0, []), some (.getfield 76, 128, 0, 9, 8, 907, 0, 0, []), none, none]
def am_t_X9_count_8 : List (Option am_I) := [some (.ireturn, 129, 0, 0, 0, 0, 0, 0, []), some (.aload_n 0, 130, 0, 0, 0, 0, 0, 0, []), some (.getfield 7, 133, 0, 9, 0, 899, 0, 0, []), none, none, some (.iconst 4, 134, 0, 0, 0, 0, 4, 0, []), some (.iaload, 135, 0, 0, 0, 0, 0, 0, []), some (.ireturn, 136, 0, 0, 0, 0, 0, 0, []), some (.ldc 58, 138, 0, 0, 0, 970, (-1000001), 0, []), none, some (.ireturn, 139, 0, 0, 0, 0, 0, 0, [])]
def am_t_X9_count : am_T := [am_t_X9_count_0, am_t_X9_count_1, am_t_X9_count_2, am_t_X9_count_3, am_t_X9_count_4, am_t_X9_count_5, am_t_X9_count_6, am_t_X9_count_7, am_t_X9_count_8]
theorem am_q_X9_count_0 : am_okQ (am_ok1 am_mt yX9_count.cls yX9_count.name cX9_count 4 (some .int)) 0 am_t_X9_count_0 = true := by decide +kernel
theorem am_q_X9_count_1 : am_okQ (am_ok1 am_mt yX9_count.cls yX9_count.name cX9_count 4 (some .int)) 1 am_t_X9_count_1 = true := by decide +kernel
theorem am_q_X9_count_2 : am_okQ (am_ok1 am_mt yX9_count.cls yX9_count.name cX9_count 4 (some .int)) 2 am_t_X9_count_2 = true := by decide +kernel
theorem am_q_X9_count_3 : am_okQ (am_ok1 am_mt yX9_count.cls yX9_count.name cX9_count 4 (some .int)) 3 am_t_X9_count_3 = true := by decide +kernel
theorem am_q_X9_count_4 : am_okQ (am_ok1 am_mt yX9_count.cls yX9_count.name cX9_count 4 (some .int)) 4 am_t_X9_count_4 = true := by decide +kernel
theorem am_q_X9_count_5 : am_okQ (am_ok1 am_mt yX9_count.cls yX9_count.name cX9_count 4 (some .int)) 5 am_t_X9_count_5 = true := by decide +kernel
theorem am_q_X9_count_6 : am_okQ (am_ok1 am_mt yX9_count.cls yX9_count.name cX9_count 4 (some .int)) 6 am_t_X9_count_6 = true := by decide +kernel
theorem am_q_X9_count_7 : am_okQ (am_ok1 am_mt yX9_count.cls yX9_count.name cX9_count 4 (some .int)) 7 am_t_X9_count_7 = true := by decide +kernel
theorem am_q_X9_count_8 : am_okQ (am_ok1 am_mt yX9_count.cls yX9_count.name cX9_count 4 (some .int)) 8 am_t_X9_count_8 = true := by decide +kernel
theorem am_q_X9_count : am_okT (am_ok1 am_mt yX9_count.cls yX9_count.name cX9_count 4 (some .int)) 0 am_t_X9_count = true := am_okT_c am_q_X9_count_0 (am_okT_c am_q_X9_count_1 (am_okT_c am_q_X9_count_2 (am_okT_c am_q_X9_count_3 (am_okT_c am_q_X9_count_4 (am_okT_c am_q_X9_count_5 (am_okT_c am_q_X9_count_6 (am_okT_c am_q_X9_count_7 (am_okT_c am_q_X9_count_8 (rfl)))))))))
def am_m_X9_count : am_M := (yX9_count, cX9_count, 4, (some .int), 1, 1328, 90, 1326, 1327, 1, am_t_X9_count)
theorem am_k_X9_count : am_okM am_mt am_m_X9_count := ⟨by decide +kernel, am_q_X9_count⟩
def am_t_X9_status_0 : List (Option am_I) := [some (.aload_n 0, 1, 0, 0, 0, 0, 0, 0, []), some (.getfield 41, 4, 0, 9, 10, 909, 0, 0, []), none, none, some (.ireturn, 5, 0, 0, 0, 0, 0, 0, [])]
def am_t_X9_status : am_T := [am_t_X9_status_0]
theorem am_q_X9_status_0 : am_okQ (am_ok1 am_mt yX9_status.cls yX9_status.name cX9_status 1 (some .int)) 0 am_t_X9_status_0 = true := by decide +kernel
theorem am_q_X9_status : am_okT (am_ok1 am_mt yX9_status.cls yX9_status.name cX9_status 1 (some .int)) 0 am_t_X9_status = true := am_okT_c am_q_X9_status_0 (rfl)
def am_m_X9_status : am_M := (yX9_status, cX9_status, 1, (some .int), 1, 1332, 90, 1330, 1331, 0, am_t_X9_status)
theorem am_k_X9_status : am_okM am_mt am_m_X9_status := ⟨by decide +kernel, am_q_X9_status⟩
def am_t_J6_bitCount_0f7a4_0 : List (Option am_I) := [some (.iload_n 0, 1, 0, 0, 0, 0, 0, 0, []), some (.iload_n 0, 2, 0, 0, 0, 0, 0, 0, []), some (.iconst 1, 3, 0, 0, 0, 0, 1, 0, []), some (.iushr, 4, 0, 0, 0, 0, 0, 0, []), some (.ldc_w 265, 7, 0, 0, 0, 540, 1431655765, 0, []), none, none, some (.iand, 8, 0, 0, 0, 0, 0, 0, []), some (.isub, 9, 0, 0, 0, 0, 0, 0, []), some (.istore_n 0, 10, 0, 0, 0, 0, 0, 0, []), some (.iload_n 0, 11, 0, 0, 0, 0, 0, 0, []), some (.ldc_w 266, 14, 0, 0, 0, 541, 858993459, 0, []), none, none, some (.iand, 15, 0, 0, 0, 0, 0, 0, []), some (.iload_n 0, 16, 0, 0, 0, 0, 0, 0, [])]
def am_t_J6_bitCount_0f7a4_1 : List (Option am_I) := [some (.iconst 2, 17, 0, 0, 0, 0, 2, 0, []), some (.iushr, 18, 0, 0, 0, 0, 0, 0, []), some (.ldc_w 266, 21, 0, 0, 0, 541, 858993459, 0, []), none, none, some (.iand, 22, 0, 0, 0, 0, 0, 0, []), some (.iadd, 23, 0, 0, 0, 0, 0, 0, []), some (.istore_n 0, 24, 0, 0, 0, 0, 0, 0, []), some (.iload_n 0, 25, 0, 0, 0, 0, 0, 0, []), some (.iload_n 0, 26, 0, 0, 0, 0, 0, 0, []), some (.iconst 4, 27, 0, 0, 0, 0, 4, 0, []), some (.iushr, 28, 0, 0, 0, 0, 0, 0, []), some (.iadd, 29, 0, 0, 0, 0, 0, 0, []), some (.ldc_w 267, 32, 0, 0, 0, 542, 252645135, 0, []), none, none]
def am_t_J6_bitCount_0f7a4_2 : List (Option am_I) := [some (.iand, 33, 0, 0, 0, 0, 0, 0, []), some (.istore_n 0, 34, 0, 0, 0, 0, 0, 0, []), some (.iload_n 0, 35, 0, 0, 0, 0, 0, 0, []), some (.iload_n 0, 36, 0, 0, 0, 0, 0, 0, []), some (.bipush 8, 38, 0, 0, 0, 0, 8, 0, []), none, some (.iushr, 39, 0, 0, 0, 0, 0, 0, []), some (.iadd, 40, 0, 0, 0, 0, 0, 0, []), some (.istore_n 0, 41, 0, 0, 0, 0, 0, 0, []), some (.iload_n 0, 42, 0, 0, 0, 0, 0, 0, []), some (.iload_n 0, 43, 0, 0, 0, 0, 0, 0, []), some (.bipush 16, 45, 0, 0, 0, 0, 16, 0, []), none, some (.iushr, 46, 0, 0, 0, 0, 0, 0, []), some (.iadd, 47, 0, 0, 0, 0, 0, 0, []), some (.istore_n 0, 48, 0, 0, 0, 0, 0, 0, [])]
def am_t_J6_bitCount_0f7a4_3 : List (Option am_I) := [some (.iload_n 0, 49, 0, 0, 0, 0, 0, 0, []), some (.bipush 63, 51, 0, 0, 0, 0, 63, 0, []), none, some (.iand, 52, 0, 0, 0, 0, 0, 0, []), some (.ireturn, 53, 0, 0, 0, 0, 0, 0, [])]
def am_t_J6_bitCount_0f7a4 : am_T := [am_t_J6_bitCount_0f7a4_0, am_t_J6_bitCount_0f7a4_1, am_t_J6_bitCount_0f7a4_2, am_t_J6_bitCount_0f7a4_3]
theorem am_q_J6_bitCount_0f7a4_0 : am_okQ (am_ok1 am_mt yJ6_bitCount_0f7a4.cls yJ6_bitCount_0f7a4.name cJ6_bitCount_0f7a4 1 (some .int)) 0 am_t_J6_bitCount_0f7a4_0 = true := by decide +kernel
theorem am_q_J6_bitCount_0f7a4_1 : am_okQ (am_ok1 am_mt yJ6_bitCount_0f7a4.cls yJ6_bitCount_0f7a4.name cJ6_bitCount_0f7a4 1 (some .int)) 1 am_t_J6_bitCount_0f7a4_1 = true := by decide +kernel
theorem am_q_J6_bitCount_0f7a4_2 : am_okQ (am_ok1 am_mt yJ6_bitCount_0f7a4.cls yJ6_bitCount_0f7a4.name cJ6_bitCount_0f7a4 1 (some .int)) 2 am_t_J6_bitCount_0f7a4_2 = true := by decide +kernel
theorem am_q_J6_bitCount_0f7a4_3 : am_okQ (am_ok1 am_mt yJ6_bitCount_0f7a4.cls yJ6_bitCount_0f7a4.name cJ6_bitCount_0f7a4 1 (some .int)) 3 am_t_J6_bitCount_0f7a4_3 = true := by decide +kernel
theorem am_q_J6_bitCount_0f7a4 : am_okT (am_ok1 am_mt yJ6_bitCount_0f7a4.cls yJ6_bitCount_0f7a4.name cJ6_bitCount_0f7a4 1 (some .int)) 0 am_t_J6_bitCount_0f7a4 = true := am_okT_c am_q_J6_bitCount_0f7a4_0 (am_okT_c am_q_J6_bitCount_0f7a4_1 (am_okT_c am_q_J6_bitCount_0f7a4_2 (am_okT_c am_q_J6_bitCount_0f7a4_3 (rfl))))
def am_m_J6_bitCount_0f7a4 : am_M := (yJ6_bitCount_0f7a4, cJ6_bitCount_0f7a4, 1, (some .int), 0, 539, 93, 538, 0, 1, am_t_J6_bitCount_0f7a4)
theorem am_k_J6_bitCount_0f7a4 : am_okM am_mt am_m_J6_bitCount_0f7a4 := ⟨by decide +kernel, am_q_J6_bitCount_0f7a4⟩
def am_ms10 : List am_M := [am_m_X9_mildMark, am_m_X9_ask, am_m_X9_trace, am_m_X9_count, am_m_X9_status, am_m_J6_bitCount_0f7a4]
theorem am_ms10_ok : ∀ M ∈ am_ms10, am_okM am_mt M := List.forall_mem_cons.mpr ⟨am_k_X9_mildMark, List.forall_mem_cons.mpr ⟨am_k_X9_ask, List.forall_mem_cons.mpr ⟨am_k_X9_trace, List.forall_mem_cons.mpr ⟨am_k_X9_count, List.forall_mem_cons.mpr ⟨am_k_X9_status, List.forall_mem_cons.mpr ⟨am_k_J6_bitCount_0f7a4, fun _ h => absurd h List.not_mem_nil⟩⟩⟩⟩⟩⟩
end
section
def am_t_law_0 : List (Option am_I) := [some (.new 7, 3, 0, 8, 0, 94, 0, 0, []), none, none, some (.dup, 4, 0, 0, 0, 0, 0, 0, []), some (.invokespecial 9, 7, 0, 92, 0, 96, 0, 0, []), none, none, some (.astore_n 1, 8, 0, 1, 0, 0, 0, 0, []), some (.new 10, 11, 0, 9, 0, 893, 0, 0, []), none, none, some (.dup, 12, 0, 0, 0, 0, 0, 0, []), some (.invokespecial 12, 15, 0, 136, 0, 895, 0, 0, []), none, none, some (.astore_n 2, 16, 0, 2, 0, 0, 0, 0, [])]
def am_t_law_1 : List (Option am_I) := [some (.iconst 0, 17, 0, 0, 0, 0, 0, 0, []), some (.istore_n 3, 18, 0, 3, 0, 0, 0, 0, []), some (.iload_n 3, 19, 0, 3, 0, 0, 0, 0, []), some (.aload_n 0, 20, 0, 0, 0, 0, 0, 0, []), some (.arraylength, 21, 0, 0, 0, 0, 0, 0, []), some (.bipush 6, 23, 0, 0, 0, 0, 6, 0, []), none, some (.isub, 24, 0, 0, 0, 0, 0, 0, []), some (.if_icmp .gt 1158, 27, 1182, 0, 0, 0, 0, 0, []), none, none, some (.aload_n 0, 28, 0, 0, 0, 0, 0, 0, []), some (.iload_n 3, 29, 0, 3, 0, 0, 0, 0, []), some (.iaload, 30, 0, 0, 0, 0, 0, 0, []), some (.bipush 63, 32, 0, 0, 0, 0, 63, 0, []), none]
def am_t_law_2 : List (Option am_I) := [some (.iand, 33, 0, 0, 0, 0, 0, 0, []), some (.tableswitch 1143 0 33 #[151, 194, 237, 300, 323, 346, 359, 372, 395, 418, 451, 484, 497, 530, 553, 576, 609, 632, 665, 688, 711, 744, 767, 830, 873, 906, 949, 972, 995, 1018, 1051, 1084, 1107, 1130], 184, 1176, 0, 0, 0, 0, 0, [(0, 184), (1, 227), (2, 270), (3, 333), (4, 356), (5, 379), (6, 392), (7, 405), (8, 428), (9, 451), (10, 484), (11, 517), (12, 530), (13, 563), (14, 586), (15, 609), (16, 642), (17, 665), (18, 698), (19, 721), (20, 744), (21, 777), (22, 800), (23, 863), (24, 906), (25, 939), (26, 982), (27, 1005), (28, 1028), (29, 1051), (30, 1084), (31, 1117), (32, 1140), (33, 1163)]), none, none, none, none, none, none, none, none, none, none, none, none, none, none]
def am_t_law_3 : List (Option am_I) := [none, none, none, none, none, none, none, none, none, none, none, none, none, none, none, none]
def am_t_law_4 : List (Option am_I) := [none, none, none, none, none, none, none, none, none, none, none, none, none, none, none, none]
def am_t_law_5 : List (Option am_I) := [none, none, none, none, none, none, none, none, none, none, none, none, none, none, none, none]
def am_t_law_6 : List (Option am_I) := [none, none, none, none, none, none, none, none, none, none, none, none, none, none, none, none]
def am_t_law_7 : List (Option am_I) := [none, none, none, none, none, none, none, none, none, none, none, none, none, none, none, none]
def am_t_law_8 : List (Option am_I) := [none, none, none, none, none, none, none, none, none, none, none, none, none, none, none, none]
def am_t_law_9 : List (Option am_I) := [none, none, none, none, none, none, none, none, none, none, none, none, none, none, none, none]
def am_t_law_10 : List (Option am_I) := [none, none, none, none, none, none, none, none, none, none, none, none, none, none, none, none]
def am_t_law_11 : List (Option am_I) := [none, none, none, none, none, none, none, none, some (.aload_n 1, 185, 0, 1, 0, 0, 0, 0, []), some (.aload_n 0, 186, 0, 0, 0, 0, 0, 0, []), some (.iload_n 3, 187, 0, 3, 0, 0, 0, 0, []), some (.iconst 1, 188, 0, 0, 0, 0, 1, 0, []), some (.iadd, 189, 0, 0, 0, 0, 0, 0, []), some (.iaload, 190, 0, 0, 0, 0, 0, 0, []), some (.aload_n 0, 191, 0, 0, 0, 0, 0, 0, []), some (.iload_n 3, 192, 0, 3, 0, 0, 0, 0, [])]
def am_t_law_12 : List (Option am_I) := [some (.iconst 2, 193, 0, 0, 0, 0, 2, 0, []), some (.iadd, 194, 0, 0, 0, 0, 0, 0, []), some (.iaload, 195, 0, 0, 0, 0, 0, 0, []), some (.aload_n 0, 196, 0, 0, 0, 0, 0, 0, []), some (.iload_n 3, 197, 0, 3, 0, 0, 0, 0, []), some (.iconst 3, 198, 0, 0, 0, 0, 3, 0, []), some (.iadd, 199, 0, 0, 0, 0, 0, 0, []), some (.iaload, 200, 0, 0, 0, 0, 0, 0, []), some (.invokevirtual 13, 203, 8, 93, 3, 344, 0, 0, []), none, none, some (.aload_n 2, 204, 0, 2, 0, 0, 0, 0, []), some (.aload_n 0, 205, 0, 0, 0, 0, 0, 0, []), some (.iload_n 3, 206, 0, 3, 0, 0, 0, 0, []), some (.iconst 1, 207, 0, 0, 0, 0, 1, 0, []), some (.iadd, 208, 0, 0, 0, 0, 0, 0, [])]
def am_t_law_13 : List (Option am_I) := [some (.iaload, 209, 0, 0, 0, 0, 0, 0, []), some (.aload_n 0, 210, 0, 0, 0, 0, 0, 0, []), some (.iload_n 3, 211, 0, 3, 0, 0, 0, 0, []), some (.iconst 2, 212, 0, 0, 0, 0, 2, 0, []), some (.iadd, 213, 0, 0, 0, 0, 0, 0, []), some (.iaload, 214, 0, 0, 0, 0, 0, 0, []), some (.aload_n 0, 215, 0, 0, 0, 0, 0, 0, []), some (.iload_n 3, 216, 0, 3, 0, 0, 0, 0, []), some (.iconst 3, 217, 0, 0, 0, 0, 3, 0, []), some (.iadd, 218, 0, 0, 0, 0, 0, 0, []), some (.iaload, 219, 0, 0, 0, 0, 0, 0, []), some (.invokevirtual 17, 222, 9, 144, 3, 958, 0, 0, []), none, none, some (.if_icmp .eq 954, 225, 1176, 0, 0, 0, 0, 0, []), none]
def am_t_law_14 : List (Option am_I) := [none, some (.iconst 0, 226, 0, 0, 0, 0, 0, 0, []), some (.ireturn, 227, 1, 0, 0, 0, 0, 0, []), some (.aload_n 1, 228, 0, 1, 0, 0, 0, 0, []), some (.aload_n 0, 229, 0, 0, 0, 0, 0, 0, []), some (.iload_n 3, 230, 0, 3, 0, 0, 0, 0, []), some (.iconst 1, 231, 0, 0, 0, 0, 1, 0, []), some (.iadd, 232, 0, 0, 0, 0, 0, 0, []), some (.iaload, 233, 0, 0, 0, 0, 0, 0, []), some (.aload_n 0, 234, 0, 0, 0, 0, 0, 0, []), some (.iload_n 3, 235, 0, 3, 0, 0, 0, 0, []), some (.iconst 2, 236, 0, 0, 0, 0, 2, 0, []), some (.iadd, 237, 0, 0, 0, 0, 0, 0, []), some (.iaload, 238, 0, 0, 0, 0, 0, 0, []), some (.aload_n 0, 239, 0, 0, 0, 0, 0, 0, []), some (.iload_n 3, 240, 0, 3, 0, 0, 0, 0, [])]
def am_t_law_15 : List (Option am_I) := [some (.iconst 3, 241, 0, 0, 0, 0, 3, 0, []), some (.iadd, 242, 0, 0, 0, 0, 0, 0, []), some (.iaload, 243, 0, 0, 0, 0, 0, 0, []), some (.invokevirtual 18, 246, 8, 94, 3, 366, 0, 0, []), none, none, some (.aload_n 2, 247, 0, 2, 0, 0, 0, 0, []), some (.aload_n 0, 248, 0, 0, 0, 0, 0, 0, []), some (.iload_n 3, 249, 0, 3, 0, 0, 0, 0, []), some (.iconst 1, 250, 0, 0, 0, 0, 1, 0, []), some (.iadd, 251, 0, 0, 0, 0, 0, 0, []), some (.iaload, 252, 0, 0, 0, 0, 0, 0, []), some (.aload_n 0, 253, 0, 0, 0, 0, 0, 0, []), some (.iload_n 3, 254, 0, 3, 0, 0, 0, 0, []), some (.iconst 2, 255, 0, 0, 0, 0, 2, 0, []), some (.iadd, 256, 0, 0, 0, 0, 0, 0, [])]
def am_t_law_16 : List (Option am_I) := [some (.iaload, 257, 0, 0, 0, 0, 0, 0, []), some (.aload_n 0, 258, 0, 0, 0, 0, 0, 0, []), some (.iload_n 3, 259, 0, 3, 0, 0, 0, 0, []), some (.iconst 3, 260, 0, 0, 0, 0, 3, 0, []), some (.iadd, 261, 0, 0, 0, 0, 0, 0, []), some (.iaload, 262, 0, 0, 0, 0, 0, 0, []), some (.invokevirtual 21, 265, 9, 146, 3, 980, 0, 0, []), none, none, some (.if_icmp .eq 911, 268, 1176, 0, 0, 0, 0, 0, []), none, none, some (.iconst 0, 269, 0, 0, 0, 0, 0, 0, []), some (.ireturn, 270, 1, 0, 0, 0, 0, 0, []), some (.aload_n 1, 271, 0, 1, 0, 0, 0, 0, []), some (.aload_n 0, 272, 0, 0, 0, 0, 0, 0, [])]
def am_t_law_17 : List (Option am_I) := [some (.iload_n 3, 273, 0, 3, 0, 0, 0, 0, []), some (.iconst 1, 274, 0, 0, 0, 0, 1, 0, []), some (.iadd, 275, 0, 0, 0, 0, 0, 0, []), some (.iaload, 276, 0, 0, 0, 0, 0, 0, []), some (.aload_n 0, 277, 0, 0, 0, 0, 0, 0, []), some (.iload_n 3, 278, 0, 3, 0, 0, 0, 0, []), some (.iconst 2, 279, 0, 0, 0, 0, 2, 0, []), some (.iadd, 280, 0, 0, 0, 0, 0, 0, []), some (.iaload, 281, 0, 0, 0, 0, 0, 0, []), some (.aload_n 0, 282, 0, 0, 0, 0, 0, 0, []), some (.iload_n 3, 283, 0, 3, 0, 0, 0, 0, []), some (.iconst 3, 284, 0, 0, 0, 0, 3, 0, []), some (.iadd, 285, 0, 0, 0, 0, 0, 0, []), some (.iaload, 286, 0, 0, 0, 0, 0, 0, []), some (.aload_n 0, 287, 0, 0, 0, 0, 0, 0, []), some (.iload_n 3, 288, 0, 3, 0, 0, 0, 0, [])]
def am_t_law_18 : List (Option am_I) := [some (.iconst 4, 289, 0, 0, 0, 0, 4, 0, []), some (.iadd, 290, 0, 0, 0, 0, 0, 0, []), some (.iaload, 291, 0, 0, 0, 0, 0, 0, []), some (.aload_n 0, 292, 0, 0, 0, 0, 0, 0, []), some (.iload_n 3, 293, 0, 3, 0, 0, 0, 0, []), some (.iconst 5, 294, 0, 0, 0, 0, 5, 0, []), some (.iadd, 295, 0, 0, 0, 0, 0, 0, []), some (.iaload, 296, 0, 0, 0, 0, 0, 0, []), some (.invokevirtual 22, 299, 8, 95, 5, 382, 0, 0, []), none, none, some (.aload_n 2, 300, 0, 2, 0, 0, 0, 0, []), some (.aload_n 0, 301, 0, 0, 0, 0, 0, 0, []), some (.iload_n 3, 302, 0, 3, 0, 0, 0, 0, []), some (.iconst 1, 303, 0, 0, 0, 0, 1, 0, []), some (.iadd, 304, 0, 0, 0, 0, 0, 0, [])]
def am_t_law_19 : List (Option am_I) := [some (.iaload, 305, 0, 0, 0, 0, 0, 0, []), some (.aload_n 0, 306, 0, 0, 0, 0, 0, 0, []), some (.iload_n 3, 307, 0, 3, 0, 0, 0, 0, []), some (.iconst 2, 308, 0, 0, 0, 0, 2, 0, []), some (.iadd, 309, 0, 0, 0, 0, 0, 0, []), some (.iaload, 310, 0, 0, 0, 0, 0, 0, []), some (.aload_n 0, 311, 0, 0, 0, 0, 0, 0, []), some (.iload_n 3, 312, 0, 3, 0, 0, 0, 0, []), some (.iconst 3, 313, 0, 0, 0, 0, 3, 0, []), some (.iadd, 314, 0, 0, 0, 0, 0, 0, []), some (.iaload, 315, 0, 0, 0, 0, 0, 0, []), some (.aload_n 0, 316, 0, 0, 0, 0, 0, 0, []), some (.iload_n 3, 317, 0, 3, 0, 0, 0, 0, []), some (.iconst 4, 318, 0, 0, 0, 0, 4, 0, []), some (.iadd, 319, 0, 0, 0, 0, 0, 0, []), some (.iaload, 320, 0, 0, 0, 0, 0, 0, [])]
def am_t_law_20 : List (Option am_I) := [some (.aload_n 0, 321, 0, 0, 0, 0, 0, 0, []), some (.iload_n 3, 322, 0, 3, 0, 0, 0, 0, []), some (.iconst 5, 323, 0, 0, 0, 0, 5, 0, []), some (.iadd, 324, 0, 0, 0, 0, 0, 0, []), some (.iaload, 325, 0, 0, 0, 0, 0, 0, []), some (.invokevirtual 26, 328, 9, 148, 5, 987, 0, 0, []), none, none, some (.if_icmp .eq 848, 331, 1176, 0, 0, 0, 0, 0, []), none, none, some (.iconst 0, 332, 0, 0, 0, 0, 0, 0, []), some (.ireturn, 333, 1, 0, 0, 0, 0, 0, []), some (.aload_n 1, 334, 0, 1, 0, 0, 0, 0, []), some (.aload_n 0, 335, 0, 0, 0, 0, 0, 0, []), some (.iload_n 3, 336, 0, 3, 0, 0, 0, 0, [])]
def am_t_law_21 : List (Option am_I) := [some (.iconst 1, 337, 0, 0, 0, 0, 1, 0, []), some (.iadd, 338, 0, 0, 0, 0, 0, 0, []), some (.iaload, 339, 0, 0, 0, 0, 0, 0, []), some (.invokevirtual 27, 342, 8, 96, 1, 397, 0, 0, []), none, none, some (.aload_n 2, 343, 0, 2, 0, 0, 0, 0, []), some (.aload_n 0, 344, 0, 0, 0, 0, 0, 0, []), some (.iload_n 3, 345, 0, 3, 0, 0, 0, 0, []), some (.iconst 1, 346, 0, 0, 0, 0, 1, 0, []), some (.iadd, 347, 0, 0, 0, 0, 0, 0, []), some (.iaload, 348, 0, 0, 0, 0, 0, 0, []), some (.invokevirtual 31, 351, 9, 149, 1, 995, 0, 0, []), none, none, some (.if_icmp .eq 825, 354, 1176, 0, 0, 0, 0, 0, [])]
def am_t_law_22 : List (Option am_I) := [none, none, some (.iconst 0, 355, 0, 0, 0, 0, 0, 0, []), some (.ireturn, 356, 1, 0, 0, 0, 0, 0, []), some (.aload_n 1, 357, 0, 1, 0, 0, 0, 0, []), some (.aload_n 0, 358, 0, 0, 0, 0, 0, 0, []), some (.iload_n 3, 359, 0, 3, 0, 0, 0, 0, []), some (.iconst 1, 360, 0, 0, 0, 0, 1, 0, []), some (.iadd, 361, 0, 0, 0, 0, 0, 0, []), some (.iaload, 362, 0, 0, 0, 0, 0, 0, []), some (.invokevirtual 32, 365, 8, 97, 1, 405, 0, 0, []), none, none, some (.aload_n 2, 366, 0, 2, 0, 0, 0, 0, []), some (.aload_n 0, 367, 0, 0, 0, 0, 0, 0, []), some (.iload_n 3, 368, 0, 3, 0, 0, 0, 0, [])]
def am_t_law_23 : List (Option am_I) := [some (.iconst 1, 369, 0, 0, 0, 0, 1, 0, []), some (.iadd, 370, 0, 0, 0, 0, 0, 0, []), some (.iaload, 371, 0, 0, 0, 0, 0, 0, []), some (.invokevirtual 35, 374, 9, 150, 1, 999, 0, 0, []), none, none, some (.if_icmp .eq 802, 377, 1176, 0, 0, 0, 0, 0, []), none, none, some (.iconst 0, 378, 0, 0, 0, 0, 0, 0, []), some (.ireturn, 379, 1, 0, 0, 0, 0, 0, []), some (.aload_n 1, 380, 0, 1, 0, 0, 0, 0, []), some (.invokevirtual 36, 383, 8, 98, 0, 418, 0, 0, []), none, none, some (.aload_n 2, 384, 0, 2, 0, 0, 0, 0, [])]
def am_t_law_24 : List (Option am_I) := [some (.invokevirtual 40, 387, 9, 162, 0, 1005, 0, 0, []), none, none, some (.if_icmp .eq 789, 390, 1176, 0, 0, 0, 0, 0, []), none, none, some (.iconst 0, 391, 0, 0, 0, 0, 0, 0, []), some (.ireturn, 392, 1, 0, 0, 0, 0, 0, []), some (.aload_n 1, 393, 0, 1, 0, 0, 0, 0, []), some (.invokevirtual 41, 396, 8, 99, 0, 493, 0, 0, []), none, none, some (.aload_n 2, 397, 0, 2, 0, 0, 0, 0, []), some (.invokevirtual 44, 400, 9, 163, 0, 1059, 0, 0, []), none, none]
def am_t_law_25 : List (Option am_I) := [some (.if_icmp .eq 776, 403, 1176, 0, 0, 0, 0, 0, []), none, none, some (.iconst 0, 404, 0, 0, 0, 0, 0, 0, []), some (.ireturn, 405, 1, 0, 0, 0, 0, 0, []), some (.aload_n 1, 406, 0, 1, 0, 0, 0, 0, []), some (.aload_n 0, 407, 0, 0, 0, 0, 0, 0, []), some (.iload_n 3, 408, 0, 3, 0, 0, 0, 0, []), some (.iconst 1, 409, 0, 0, 0, 0, 1, 0, []), some (.iadd, 410, 0, 0, 0, 0, 0, 0, []), some (.iaload, 411, 0, 0, 0, 0, 0, 0, []), some (.invokevirtual 45, 414, 8, 100, 1, 497, 0, 0, []), none, none, some (.aload_n 2, 415, 0, 2, 0, 0, 0, 0, []), some (.aload_n 0, 416, 0, 0, 0, 0, 0, 0, [])]
def am_t_law_26 : List (Option am_I) := [some (.iload_n 3, 417, 0, 3, 0, 0, 0, 0, []), some (.iconst 1, 418, 0, 0, 0, 0, 1, 0, []), some (.iadd, 419, 0, 0, 0, 0, 0, 0, []), some (.iaload, 420, 0, 0, 0, 0, 0, 0, []), some (.invokevirtual 48, 423, 9, 179, 1, 1068, 0, 0, []), none, none, some (.if_icmp .eq 753, 426, 1176, 0, 0, 0, 0, 0, []), none, none, some (.iconst 0, 427, 0, 0, 0, 0, 0, 0, []), some (.ireturn, 428, 1, 0, 0, 0, 0, 0, []), some (.aload_n 1, 429, 0, 1, 0, 0, 0, 0, []), some (.aload_n 0, 430, 0, 0, 0, 0, 0, 0, []), some (.iload_n 3, 431, 0, 3, 0, 0, 0, 0, []), some (.iconst 1, 432, 0, 0, 0, 0, 1, 0, [])]
def am_t_law_27 : List (Option am_I) := [some (.iadd, 433, 0, 0, 0, 0, 0, 0, []), some (.iaload, 434, 0, 0, 0, 0, 0, 0, []), some (.invokevirtual 49, 437, 8, 101, 1, 548, 0, 0, []), none, none, some (.aload_n 2, 438, 0, 2, 0, 0, 0, 0, []), some (.aload_n 0, 439, 0, 0, 0, 0, 0, 0, []), some (.iload_n 3, 440, 0, 3, 0, 0, 0, 0, []), some (.iconst 1, 441, 0, 0, 0, 0, 1, 0, []), some (.iadd, 442, 0, 0, 0, 0, 0, 0, []), some (.iaload, 443, 0, 0, 0, 0, 0, 0, []), some (.invokevirtual 52, 446, 9, 180, 1, 1120, 0, 0, []), none, none, some (.if_icmp .eq 730, 449, 1176, 0, 0, 0, 0, 0, []), none]
def am_t_law_28 : List (Option am_I) := [none, some (.iconst 0, 450, 0, 0, 0, 0, 0, 0, []), some (.ireturn, 451, 1, 0, 0, 0, 0, 0, []), some (.aload_n 1, 452, 0, 1, 0, 0, 0, 0, []), some (.aload_n 0, 453, 0, 0, 0, 0, 0, 0, []), some (.iload_n 3, 454, 0, 3, 0, 0, 0, 0, []), some (.iconst 1, 455, 0, 0, 0, 0, 1, 0, []), some (.iadd, 456, 0, 0, 0, 0, 0, 0, []), some (.iaload, 457, 0, 0, 0, 0, 0, 0, []), some (.aload_n 0, 458, 0, 0, 0, 0, 0, 0, []), some (.iload_n 3, 459, 0, 3, 0, 0, 0, 0, []), some (.iconst 2, 460, 0, 0, 0, 0, 2, 0, []), some (.iadd, 461, 0, 0, 0, 0, 0, 0, []), some (.iaload, 462, 0, 0, 0, 0, 0, 0, []), some (.invokevirtual 53, 465, 8, 102, 2, 560, 0, 0, []), none]
def am_t_law_29 : List (Option am_I) := [none, some (.aload_n 2, 466, 0, 2, 0, 0, 0, 0, []), some (.aload_n 0, 467, 0, 0, 0, 0, 0, 0, []), some (.iload_n 3, 468, 0, 3, 0, 0, 0, 0, []), some (.iconst 1, 469, 0, 0, 0, 0, 1, 0, []), some (.iadd, 470, 0, 0, 0, 0, 0, 0, []), some (.iaload, 471, 0, 0, 0, 0, 0, 0, []), some (.aload_n 0, 472, 0, 0, 0, 0, 0, 0, []), some (.iload_n 3, 473, 0, 3, 0, 0, 0, 0, []), some (.iconst 2, 474, 0, 0, 0, 0, 2, 0, []), some (.iadd, 475, 0, 0, 0, 0, 0, 0, []), some (.iaload, 476, 0, 0, 0, 0, 0, 0, []), some (.invokevirtual 57, 479, 9, 181, 2, 1128, 0, 0, []), none, none, some (.if_icmp .eq 697, 482, 1176, 0, 0, 0, 0, 0, [])]
def am_t_law_30 : List (Option am_I) := [none, none, some (.iconst 0, 483, 0, 0, 0, 0, 0, 0, []), some (.ireturn, 484, 1, 0, 0, 0, 0, 0, []), some (.aload_n 1, 485, 0, 1, 0, 0, 0, 0, []), some (.aload_n 0, 486, 0, 0, 0, 0, 0, 0, []), some (.iload_n 3, 487, 0, 3, 0, 0, 0, 0, []), some (.iconst 1, 488, 0, 0, 0, 0, 1, 0, []), some (.iadd, 489, 0, 0, 0, 0, 0, 0, []), some (.iaload, 490, 0, 0, 0, 0, 0, 0, []), some (.aload_n 0, 491, 0, 0, 0, 0, 0, 0, []), some (.iload_n 3, 492, 0, 3, 0, 0, 0, 0, []), some (.iconst 2, 493, 0, 0, 0, 0, 2, 0, []), some (.iadd, 494, 0, 0, 0, 0, 0, 0, []), some (.iaload, 495, 0, 0, 0, 0, 0, 0, []), some (.invokevirtual 58, 498, 8, 103, 2, 564, 0, 0, [])]
def am_t_law_31 : List (Option am_I) := [none, none, some (.aload_n 2, 499, 0, 2, 0, 0, 0, 0, []), some (.aload_n 0, 500, 0, 0, 0, 0, 0, 0, []), some (.iload_n 3, 501, 0, 3, 0, 0, 0, 0, []), some (.iconst 1, 502, 0, 0, 0, 0, 1, 0, []), some (.iadd, 503, 0, 0, 0, 0, 0, 0, []), some (.iaload, 504, 0, 0, 0, 0, 0, 0, []), some (.aload_n 0, 505, 0, 0, 0, 0, 0, 0, []), some (.iload_n 3, 506, 0, 3, 0, 0, 0, 0, []), some (.iconst 2, 507, 0, 0, 0, 0, 2, 0, []), some (.iadd, 508, 0, 0, 0, 0, 0, 0, []), some (.iaload, 509, 0, 0, 0, 0, 0, 0, []), some (.invokevirtual 61, 512, 9, 183, 2, 1133, 0, 0, []), none, none]
def am_t_law_32 : List (Option am_I) := [some (.if_icmp .eq 664, 515, 1176, 0, 0, 0, 0, 0, []), none, none, some (.iconst 0, 516, 0, 0, 0, 0, 0, 0, []), some (.ireturn, 517, 1, 0, 0, 0, 0, 0, []), some (.aload_n 1, 518, 0, 1, 0, 0, 0, 0, []), some (.invokevirtual 62, 521, 8, 104, 0, 572, 0, 0, []), none, none, some (.aload_n 2, 522, 0, 2, 0, 0, 0, 0, []), some (.invokevirtual 65, 525, 9, 166, 0, 1063, 0, 0, []), none, none, some (.if_icmp .eq 651, 528, 1176, 0, 0, 0, 0, 0, []), none, none]
def am_t_law_33 : List (Option am_I) := [some (.iconst 0, 529, 0, 0, 0, 0, 0, 0, []), some (.ireturn, 530, 1, 0, 0, 0, 0, 0, []), some (.aload_n 1, 531, 0, 1, 0, 0, 0, 0, []), some (.aload_n 0, 532, 0, 0, 0, 0, 0, 0, []), some (.iload_n 3, 533, 0, 3, 0, 0, 0, 0, []), some (.iconst 1, 534, 0, 0, 0, 0, 1, 0, []), some (.iadd, 535, 0, 0, 0, 0, 0, 0, []), some (.iaload, 536, 0, 0, 0, 0, 0, 0, []), some (.aload_n 0, 537, 0, 0, 0, 0, 0, 0, []), some (.iload_n 3, 538, 0, 3, 0, 0, 0, 0, []), some (.iconst 2, 539, 0, 0, 0, 0, 2, 0, []), some (.iadd, 540, 0, 0, 0, 0, 0, 0, []), some (.iaload, 541, 0, 0, 0, 0, 0, 0, []), some (.invokevirtual 66, 544, 8, 105, 2, 580, 0, 0, []), none, none]
def am_t_law_34 : List (Option am_I) := [some (.aload_n 2, 545, 0, 2, 0, 0, 0, 0, []), some (.aload_n 0, 546, 0, 0, 0, 0, 0, 0, []), some (.iload_n 3, 547, 0, 3, 0, 0, 0, 0, []), some (.iconst 1, 548, 0, 0, 0, 0, 1, 0, []), some (.iadd, 549, 0, 0, 0, 0, 0, 0, []), some (.iaload, 550, 0, 0, 0, 0, 0, 0, []), some (.aload_n 0, 551, 0, 0, 0, 0, 0, 0, []), some (.iload_n 3, 552, 0, 3, 0, 0, 0, 0, []), some (.iconst 2, 553, 0, 0, 0, 0, 2, 0, []), some (.iadd, 554, 0, 0, 0, 0, 0, 0, []), some (.iaload, 555, 0, 0, 0, 0, 0, 0, []), some (.invokevirtual 69, 558, 9, 184, 2, 1142, 0, 0, []), none, none, some (.if_icmp .eq 618, 561, 1176, 0, 0, 0, 0, 0, []), none]
def am_t_law_35 : List (Option am_I) := [none, some (.iconst 0, 562, 0, 0, 0, 0, 0, 0, []), some (.ireturn, 563, 1, 0, 0, 0, 0, 0, []), some (.aload_n 1, 564, 0, 1, 0, 0, 0, 0, []), some (.aload_n 0, 565, 0, 0, 0, 0, 0, 0, []), some (.iload_n 3, 566, 0, 3, 0, 0, 0, 0, []), some (.iconst 1, 567, 0, 0, 0, 0, 1, 0, []), some (.iadd, 568, 0, 0, 0, 0, 0, 0, []), some (.iaload, 569, 0, 0, 0, 0, 0, 0, []), some (.invokevirtual 70, 572, 8, 106, 1, 586, 0, 0, []), none, none, some (.aload_n 2, 573, 0, 2, 0, 0, 0, 0, []), some (.aload_n 0, 574, 0, 0, 0, 0, 0, 0, []), some (.iload_n 3, 575, 0, 3, 0, 0, 0, 0, []), some (.iconst 1, 576, 0, 0, 0, 0, 1, 0, [])]
def am_t_law_36 : List (Option am_I) := [some (.iadd, 577, 0, 0, 0, 0, 0, 0, []), some (.iaload, 578, 0, 0, 0, 0, 0, 0, []), some (.invokevirtual 73, 581, 9, 185, 1, 1146, 0, 0, []), none, none, some (.if_icmp .eq 595, 584, 1176, 0, 0, 0, 0, 0, []), none, none, some (.iconst 0, 585, 0, 0, 0, 0, 0, 0, []), some (.ireturn, 586, 1, 0, 0, 0, 0, 0, []), some (.aload_n 1, 587, 0, 1, 0, 0, 0, 0, []), some (.aload_n 0, 588, 0, 0, 0, 0, 0, 0, []), some (.iload_n 3, 589, 0, 3, 0, 0, 0, 0, []), some (.iconst 1, 590, 0, 0, 0, 0, 1, 0, []), some (.iadd, 591, 0, 0, 0, 0, 0, 0, []), some (.iaload, 592, 0, 0, 0, 0, 0, 0, [])]
def am_t_law_37 : List (Option am_I) := [some (.invokevirtual 74, 595, 8, 107, 1, 590, 0, 0, []), none, none, some (.aload_n 2, 596, 0, 2, 0, 0, 0, 0, []), some (.aload_n 0, 597, 0, 0, 0, 0, 0, 0, []), some (.iload_n 3, 598, 0, 3, 0, 0, 0, 0, []), some (.iconst 1, 599, 0, 0, 0, 0, 1, 0, []), some (.iadd, 600, 0, 0, 0, 0, 0, 0, []), some (.iaload, 601, 0, 0, 0, 0, 0, 0, []), some (.invokevirtual 77, 604, 9, 186, 1, 1150, 0, 0, []), none, none, some (.if_icmp .eq 572, 607, 1176, 0, 0, 0, 0, 0, []), none, none, some (.iconst 0, 608, 0, 0, 0, 0, 0, 0, [])]
def am_t_law_38 : List (Option am_I) := [some (.ireturn, 609, 1, 0, 0, 0, 0, 0, []), some (.aload_n 1, 610, 0, 1, 0, 0, 0, 0, []), some (.aload_n 0, 611, 0, 0, 0, 0, 0, 0, []), some (.iload_n 3, 612, 0, 3, 0, 0, 0, 0, []), some (.iconst 1, 613, 0, 0, 0, 0, 1, 0, []), some (.iadd, 614, 0, 0, 0, 0, 0, 0, []), some (.iaload, 615, 0, 0, 0, 0, 0, 0, []), some (.aload_n 0, 616, 0, 0, 0, 0, 0, 0, []), some (.iload_n 3, 617, 0, 3, 0, 0, 0, 0, []), some (.iconst 2, 618, 0, 0, 0, 0, 2, 0, []), some (.iadd, 619, 0, 0, 0, 0, 0, 0, []), some (.iaload, 620, 0, 0, 0, 0, 0, 0, []), some (.invokevirtual 78, 623, 8, 108, 2, 595, 0, 0, []), none, none, some (.aload_n 2, 624, 0, 2, 0, 0, 0, 0, [])]
def am_t_law_39 : List (Option am_I) := [some (.aload_n 0, 625, 0, 0, 0, 0, 0, 0, []), some (.iload_n 3, 626, 0, 3, 0, 0, 0, 0, []), some (.iconst 1, 627, 0, 0, 0, 0, 1, 0, []), some (.iadd, 628, 0, 0, 0, 0, 0, 0, []), some (.iaload, 629, 0, 0, 0, 0, 0, 0, []), some (.aload_n 0, 630, 0, 0, 0, 0, 0, 0, []), some (.iload_n 3, 631, 0, 3, 0, 0, 0, 0, []), some (.iconst 2, 632, 0, 0, 0, 0, 2, 0, []), some (.iadd, 633, 0, 0, 0, 0, 0, 0, []), some (.iaload, 634, 0, 0, 0, 0, 0, 0, []), some (.invokevirtual 81, 637, 9, 190, 2, 1154, 0, 0, []), none, none, some (.if_icmp .eq 539, 640, 1176, 0, 0, 0, 0, 0, []), none, none]
def am_t_law_40 : List (Option am_I) := [some (.iconst 0, 641, 0, 0, 0, 0, 0, 0, []), some (.ireturn, 642, 1, 0, 0, 0, 0, 0, []), some (.aload_n 1, 643, 0, 1, 0, 0, 0, 0, []), some (.aload_n 0, 644, 0, 0, 0, 0, 0, 0, []), some (.iload_n 3, 645, 0, 3, 0, 0, 0, 0, []), some (.iconst 1, 646, 0, 0, 0, 0, 1, 0, []), some (.iadd, 647, 0, 0, 0, 0, 0, 0, []), some (.iaload, 648, 0, 0, 0, 0, 0, 0, []), some (.invokevirtual 82, 651, 8, 109, 1, 620, 0, 0, []), none, none, some (.aload_n 2, 652, 0, 2, 0, 0, 0, 0, []), some (.aload_n 0, 653, 0, 0, 0, 0, 0, 0, []), some (.iload_n 3, 654, 0, 3, 0, 0, 0, 0, []), some (.iconst 1, 655, 0, 0, 0, 0, 1, 0, []), some (.iadd, 656, 0, 0, 0, 0, 0, 0, [])]
def am_t_law_41 : List (Option am_I) := [some (.iaload, 657, 0, 0, 0, 0, 0, 0, []), some (.invokevirtual 85, 660, 9, 191, 1, 1164, 0, 0, []), none, none, some (.if_icmp .eq 516, 663, 1176, 0, 0, 0, 0, 0, []), none, none, some (.iconst 0, 664, 0, 0, 0, 0, 0, 0, []), some (.ireturn, 665, 1, 0, 0, 0, 0, 0, []), some (.aload_n 1, 666, 0, 1, 0, 0, 0, 0, []), some (.aload_n 0, 667, 0, 0, 0, 0, 0, 0, []), some (.iload_n 3, 668, 0, 3, 0, 0, 0, 0, []), some (.iconst 1, 669, 0, 0, 0, 0, 1, 0, []), some (.iadd, 670, 0, 0, 0, 0, 0, 0, []), some (.iaload, 671, 0, 0, 0, 0, 0, 0, []), some (.aload_n 0, 672, 0, 0, 0, 0, 0, 0, [])]
def am_t_law_42 : List (Option am_I) := [some (.iload_n 3, 673, 0, 3, 0, 0, 0, 0, []), some (.iconst 2, 674, 0, 0, 0, 0, 2, 0, []), some (.iadd, 675, 0, 0, 0, 0, 0, 0, []), some (.iaload, 676, 0, 0, 0, 0, 0, 0, []), some (.invokevirtual 86, 679, 8, 110, 2, 630, 0, 0, []), none, none, some (.aload_n 2, 680, 0, 2, 0, 0, 0, 0, []), some (.aload_n 0, 681, 0, 0, 0, 0, 0, 0, []), some (.iload_n 3, 682, 0, 3, 0, 0, 0, 0, []), some (.iconst 1, 683, 0, 0, 0, 0, 1, 0, []), some (.iadd, 684, 0, 0, 0, 0, 0, 0, []), some (.iaload, 685, 0, 0, 0, 0, 0, 0, []), some (.aload_n 0, 686, 0, 0, 0, 0, 0, 0, []), some (.iload_n 3, 687, 0, 3, 0, 0, 0, 0, []), some (.iconst 2, 688, 0, 0, 0, 0, 2, 0, [])]
def am_t_law_43 : List (Option am_I) := [some (.iadd, 689, 0, 0, 0, 0, 0, 0, []), some (.iaload, 690, 0, 0, 0, 0, 0, 0, []), some (.invokevirtual 89, 693, 9, 194, 2, 1173, 0, 0, []), none, none, some (.if_icmp .eq 483, 696, 1176, 0, 0, 0, 0, 0, []), none, none, some (.iconst 0, 697, 0, 0, 0, 0, 0, 0, []), some (.ireturn, 698, 1, 0, 0, 0, 0, 0, []), some (.aload_n 1, 699, 0, 1, 0, 0, 0, 0, []), some (.aload_n 0, 700, 0, 0, 0, 0, 0, 0, []), some (.iload_n 3, 701, 0, 3, 0, 0, 0, 0, []), some (.iconst 1, 702, 0, 0, 0, 0, 1, 0, []), some (.iadd, 703, 0, 0, 0, 0, 0, 0, []), some (.iaload, 704, 0, 0, 0, 0, 0, 0, [])]
def am_t_law_44 : List (Option am_I) := [some (.invokevirtual 90, 707, 8, 111, 1, 667, 0, 0, []), none, none, some (.aload_n 2, 708, 0, 2, 0, 0, 0, 0, []), some (.aload_n 0, 709, 0, 0, 0, 0, 0, 0, []), some (.iload_n 3, 710, 0, 3, 0, 0, 0, 0, []), some (.iconst 1, 711, 0, 0, 0, 0, 1, 0, []), some (.iadd, 712, 0, 0, 0, 0, 0, 0, []), some (.iaload, 713, 0, 0, 0, 0, 0, 0, []), some (.invokevirtual 93, 716, 9, 196, 1, 1192, 0, 0, []), none, none, some (.if_icmp .eq 460, 719, 1176, 0, 0, 0, 0, 0, []), none, none, some (.iconst 0, 720, 0, 0, 0, 0, 0, 0, [])]
def am_t_law_45 : List (Option am_I) := [some (.ireturn, 721, 1, 0, 0, 0, 0, 0, []), some (.aload_n 1, 722, 0, 1, 0, 0, 0, 0, []), some (.aload_n 0, 723, 0, 0, 0, 0, 0, 0, []), some (.iload_n 3, 724, 0, 3, 0, 0, 0, 0, []), some (.iconst 1, 725, 0, 0, 0, 0, 1, 0, []), some (.iadd, 726, 0, 0, 0, 0, 0, 0, []), some (.iaload, 727, 0, 0, 0, 0, 0, 0, []), some (.invokevirtual 94, 730, 8, 112, 1, 687, 0, 0, []), none, none, some (.aload_n 2, 731, 0, 2, 0, 0, 0, 0, []), some (.aload_n 0, 732, 0, 0, 0, 0, 0, 0, []), some (.iload_n 3, 733, 0, 3, 0, 0, 0, 0, []), some (.iconst 1, 734, 0, 0, 0, 0, 1, 0, []), some (.iadd, 735, 0, 0, 0, 0, 0, 0, []), some (.iaload, 736, 0, 0, 0, 0, 0, 0, [])]
def am_t_law_46 : List (Option am_I) := [some (.invokevirtual 97, 739, 9, 200, 1, 1200, 0, 0, []), none, none, some (.if_icmp .eq 437, 742, 1176, 0, 0, 0, 0, 0, []), none, none, some (.iconst 0, 743, 0, 0, 0, 0, 0, 0, []), some (.ireturn, 744, 1, 0, 0, 0, 0, 0, []), some (.aload_n 1, 745, 0, 1, 0, 0, 0, 0, []), some (.aload_n 0, 746, 0, 0, 0, 0, 0, 0, []), some (.iload_n 3, 747, 0, 3, 0, 0, 0, 0, []), some (.iconst 1, 748, 0, 0, 0, 0, 1, 0, []), some (.iadd, 749, 0, 0, 0, 0, 0, 0, []), some (.iaload, 750, 0, 0, 0, 0, 0, 0, []), some (.aload_n 0, 751, 0, 0, 0, 0, 0, 0, []), some (.iload_n 3, 752, 0, 3, 0, 0, 0, 0, [])]
def am_t_law_47 : List (Option am_I) := [some (.iconst 2, 753, 0, 0, 0, 0, 2, 0, []), some (.iadd, 754, 0, 0, 0, 0, 0, 0, []), some (.iaload, 755, 0, 0, 0, 0, 0, 0, []), some (.invokevirtual 98, 758, 8, 113, 2, 705, 0, 0, []), none, none, some (.aload_n 2, 759, 0, 2, 0, 0, 0, 0, []), some (.aload_n 0, 760, 0, 0, 0, 0, 0, 0, []), some (.iload_n 3, 761, 0, 3, 0, 0, 0, 0, []), some (.iconst 1, 762, 0, 0, 0, 0, 1, 0, []), some (.iadd, 763, 0, 0, 0, 0, 0, 0, []), some (.iaload, 764, 0, 0, 0, 0, 0, 0, []), some (.aload_n 0, 765, 0, 0, 0, 0, 0, 0, []), some (.iload_n 3, 766, 0, 3, 0, 0, 0, 0, []), some (.iconst 2, 767, 0, 0, 0, 0, 2, 0, []), some (.iadd, 768, 0, 0, 0, 0, 0, 0, [])]
def am_t_law_48 : List (Option am_I) := [some (.iaload, 769, 0, 0, 0, 0, 0, 0, []), some (.invokevirtual 101, 772, 9, 201, 2, 1216, 0, 0, []), none, none, some (.if_icmp .eq 404, 775, 1176, 0, 0, 0, 0, 0, []), none, none, some (.iconst 0, 776, 0, 0, 0, 0, 0, 0, []), some (.ireturn, 777, 1, 0, 0, 0, 0, 0, []), some (.aload_n 1, 778, 0, 1, 0, 0, 0, 0, []), some (.aload_n 0, 779, 0, 0, 0, 0, 0, 0, []), some (.iload_n 3, 780, 0, 3, 0, 0, 0, 0, []), some (.iconst 1, 781, 0, 0, 0, 0, 1, 0, []), some (.iadd, 782, 0, 0, 0, 0, 0, 0, []), some (.iaload, 783, 0, 0, 0, 0, 0, 0, []), some (.invokevirtual 102, 786, 8, 114, 1, 718, 0, 0, [])]
def am_t_law_49 : List (Option am_I) := [none, none, some (.aload_n 2, 787, 0, 2, 0, 0, 0, 0, []), some (.aload_n 0, 788, 0, 0, 0, 0, 0, 0, []), some (.iload_n 3, 789, 0, 3, 0, 0, 0, 0, []), some (.iconst 1, 790, 0, 0, 0, 0, 1, 0, []), some (.iadd, 791, 0, 0, 0, 0, 0, 0, []), some (.iaload, 792, 0, 0, 0, 0, 0, 0, []), some (.invokevirtual 105, 795, 9, 202, 1, 1225, 0, 0, []), none, none, some (.if_icmp .eq 381, 798, 1176, 0, 0, 0, 0, 0, []), none, none, some (.iconst 0, 799, 0, 0, 0, 0, 0, 0, []), some (.ireturn, 800, 1, 0, 0, 0, 0, 0, [])]
def am_t_law_50 : List (Option am_I) := [some (.aload_n 1, 801, 0, 1, 0, 0, 0, 0, []), some (.aload_n 0, 802, 0, 0, 0, 0, 0, 0, []), some (.iload_n 3, 803, 0, 3, 0, 0, 0, 0, []), some (.iconst 1, 804, 0, 0, 0, 0, 1, 0, []), some (.iadd, 805, 0, 0, 0, 0, 0, 0, []), some (.iaload, 806, 0, 0, 0, 0, 0, 0, []), some (.aload_n 0, 807, 0, 0, 0, 0, 0, 0, []), some (.iload_n 3, 808, 0, 3, 0, 0, 0, 0, []), some (.iconst 2, 809, 0, 0, 0, 0, 2, 0, []), some (.iadd, 810, 0, 0, 0, 0, 0, 0, []), some (.iaload, 811, 0, 0, 0, 0, 0, 0, []), some (.aload_n 0, 812, 0, 0, 0, 0, 0, 0, []), some (.iload_n 3, 813, 0, 3, 0, 0, 0, 0, []), some (.iconst 3, 814, 0, 0, 0, 0, 3, 0, []), some (.iadd, 815, 0, 0, 0, 0, 0, 0, []), some (.iaload, 816, 0, 0, 0, 0, 0, 0, [])]
def am_t_law_51 : List (Option am_I) := [some (.aload_n 0, 817, 0, 0, 0, 0, 0, 0, []), some (.iload_n 3, 818, 0, 3, 0, 0, 0, 0, []), some (.iconst 4, 819, 0, 0, 0, 0, 4, 0, []), some (.iadd, 820, 0, 0, 0, 0, 0, 0, []), some (.iaload, 821, 0, 0, 0, 0, 0, 0, []), some (.aload_n 0, 822, 0, 0, 0, 0, 0, 0, []), some (.iload_n 3, 823, 0, 3, 0, 0, 0, 0, []), some (.iconst 5, 824, 0, 0, 0, 0, 5, 0, []), some (.iadd, 825, 0, 0, 0, 0, 0, 0, []), some (.iaload, 826, 0, 0, 0, 0, 0, 0, []), some (.invokevirtual 106, 829, 8, 115, 5, 726, 0, 0, []), none, none, some (.aload_n 2, 830, 0, 2, 0, 0, 0, 0, []), some (.aload_n 0, 831, 0, 0, 0, 0, 0, 0, []), some (.iload_n 3, 832, 0, 3, 0, 0, 0, 0, [])]
def am_t_law_52 : List (Option am_I) := [some (.iconst 1, 833, 0, 0, 0, 0, 1, 0, []), some (.iadd, 834, 0, 0, 0, 0, 0, 0, []), some (.iaload, 835, 0, 0, 0, 0, 0, 0, []), some (.aload_n 0, 836, 0, 0, 0, 0, 0, 0, []), some (.iload_n 3, 837, 0, 3, 0, 0, 0, 0, []), some (.iconst 2, 838, 0, 0, 0, 0, 2, 0, []), some (.iadd, 839, 0, 0, 0, 0, 0, 0, []), some (.iaload, 840, 0, 0, 0, 0, 0, 0, []), some (.aload_n 0, 841, 0, 0, 0, 0, 0, 0, []), some (.iload_n 3, 842, 0, 3, 0, 0, 0, 0, []), some (.iconst 3, 843, 0, 0, 0, 0, 3, 0, []), some (.iadd, 844, 0, 0, 0, 0, 0, 0, []), some (.iaload, 845, 0, 0, 0, 0, 0, 0, []), some (.aload_n 0, 846, 0, 0, 0, 0, 0, 0, []), some (.iload_n 3, 847, 0, 3, 0, 0, 0, 0, []), some (.iconst 4, 848, 0, 0, 0, 0, 4, 0, [])]
def am_t_law_53 : List (Option am_I) := [some (.iadd, 849, 0, 0, 0, 0, 0, 0, []), some (.iaload, 850, 0, 0, 0, 0, 0, 0, []), some (.aload_n 0, 851, 0, 0, 0, 0, 0, 0, []), some (.iload_n 3, 852, 0, 3, 0, 0, 0, 0, []), some (.iconst 5, 853, 0, 0, 0, 0, 5, 0, []), some (.iadd, 854, 0, 0, 0, 0, 0, 0, []), some (.iaload, 855, 0, 0, 0, 0, 0, 0, []), some (.invokevirtual 109, 858, 9, 205, 5, 1229, 0, 0, []), none, none, some (.if_icmp .eq 318, 861, 1176, 0, 0, 0, 0, 0, []), none, none, some (.iconst 0, 862, 0, 0, 0, 0, 0, 0, []), some (.ireturn, 863, 1, 0, 0, 0, 0, 0, []), some (.aload_n 1, 864, 0, 1, 0, 0, 0, 0, [])]
def am_t_law_54 : List (Option am_I) := [some (.aload_n 0, 865, 0, 0, 0, 0, 0, 0, []), some (.iload_n 3, 866, 0, 3, 0, 0, 0, 0, []), some (.iconst 1, 867, 0, 0, 0, 0, 1, 0, []), some (.iadd, 868, 0, 0, 0, 0, 0, 0, []), some (.iaload, 869, 0, 0, 0, 0, 0, 0, []), some (.aload_n 0, 870, 0, 0, 0, 0, 0, 0, []), some (.iload_n 3, 871, 0, 3, 0, 0, 0, 0, []), some (.iconst 2, 872, 0, 0, 0, 0, 2, 0, []), some (.iadd, 873, 0, 0, 0, 0, 0, 0, []), some (.iaload, 874, 0, 0, 0, 0, 0, 0, []), some (.aload_n 0, 875, 0, 0, 0, 0, 0, 0, []), some (.iload_n 3, 876, 0, 3, 0, 0, 0, 0, []), some (.iconst 3, 877, 0, 0, 0, 0, 3, 0, []), some (.iadd, 878, 0, 0, 0, 0, 0, 0, []), some (.iaload, 879, 0, 0, 0, 0, 0, 0, []), some (.invokevirtual 110, 882, 8, 116, 3, 749, 0, 0, [])]
def am_t_law_55 : List (Option am_I) := [none, none, some (.aload_n 2, 883, 0, 2, 0, 0, 0, 0, []), some (.aload_n 0, 884, 0, 0, 0, 0, 0, 0, []), some (.iload_n 3, 885, 0, 3, 0, 0, 0, 0, []), some (.iconst 1, 886, 0, 0, 0, 0, 1, 0, []), some (.iadd, 887, 0, 0, 0, 0, 0, 0, []), some (.iaload, 888, 0, 0, 0, 0, 0, 0, []), some (.aload_n 0, 889, 0, 0, 0, 0, 0, 0, []), some (.iload_n 3, 890, 0, 3, 0, 0, 0, 0, []), some (.iconst 2, 891, 0, 0, 0, 0, 2, 0, []), some (.iadd, 892, 0, 0, 0, 0, 0, 0, []), some (.iaload, 893, 0, 0, 0, 0, 0, 0, []), some (.aload_n 0, 894, 0, 0, 0, 0, 0, 0, []), some (.iload_n 3, 895, 0, 3, 0, 0, 0, 0, []), some (.iconst 3, 896, 0, 0, 0, 0, 3, 0, [])]
def am_t_law_56 : List (Option am_I) := [some (.iadd, 897, 0, 0, 0, 0, 0, 0, []), some (.iaload, 898, 0, 0, 0, 0, 0, 0, []), some (.invokevirtual 113, 901, 9, 206, 3, 1242, 0, 0, []), none, none, some (.if_icmp .eq 275, 904, 1176, 0, 0, 0, 0, 0, []), none, none, some (.iconst 0, 905, 0, 0, 0, 0, 0, 0, []), some (.ireturn, 906, 1, 0, 0, 0, 0, 0, []), some (.aload_n 1, 907, 0, 1, 0, 0, 0, 0, []), some (.aload_n 0, 908, 0, 0, 0, 0, 0, 0, []), some (.iload_n 3, 909, 0, 3, 0, 0, 0, 0, []), some (.iconst 1, 910, 0, 0, 0, 0, 1, 0, []), some (.iadd, 911, 0, 0, 0, 0, 0, 0, []), some (.iaload, 912, 0, 0, 0, 0, 0, 0, [])]
def am_t_law_57 : List (Option am_I) := [some (.aload_n 0, 913, 0, 0, 0, 0, 0, 0, []), some (.iload_n 3, 914, 0, 3, 0, 0, 0, 0, []), some (.iconst 2, 915, 0, 0, 0, 0, 2, 0, []), some (.iadd, 916, 0, 0, 0, 0, 0, 0, []), some (.iaload, 917, 0, 0, 0, 0, 0, 0, []), some (.invokevirtual 114, 920, 8, 117, 2, 757, 0, 0, []), none, none, some (.aload_n 2, 921, 0, 2, 0, 0, 0, 0, []), some (.aload_n 0, 922, 0, 0, 0, 0, 0, 0, []), some (.iload_n 3, 923, 0, 3, 0, 0, 0, 0, []), some (.iconst 1, 924, 0, 0, 0, 0, 1, 0, []), some (.iadd, 925, 0, 0, 0, 0, 0, 0, []), some (.iaload, 926, 0, 0, 0, 0, 0, 0, []), some (.aload_n 0, 927, 0, 0, 0, 0, 0, 0, []), some (.iload_n 3, 928, 0, 3, 0, 0, 0, 0, [])]
def am_t_law_58 : List (Option am_I) := [some (.iconst 2, 929, 0, 0, 0, 0, 2, 0, []), some (.iadd, 930, 0, 0, 0, 0, 0, 0, []), some (.iaload, 931, 0, 0, 0, 0, 0, 0, []), some (.invokevirtual 117, 934, 9, 207, 2, 1246, 0, 0, []), none, none, some (.if_icmp .eq 242, 937, 1176, 0, 0, 0, 0, 0, []), none, none, some (.iconst 0, 938, 0, 0, 0, 0, 0, 0, []), some (.ireturn, 939, 1, 0, 0, 0, 0, 0, []), some (.aload_n 1, 940, 0, 1, 0, 0, 0, 0, []), some (.aload_n 0, 941, 0, 0, 0, 0, 0, 0, []), some (.iload_n 3, 942, 0, 3, 0, 0, 0, 0, []), some (.iconst 1, 943, 0, 0, 0, 0, 1, 0, []), some (.iadd, 944, 0, 0, 0, 0, 0, 0, [])]
def am_t_law_59 : List (Option am_I) := [some (.iaload, 945, 0, 0, 0, 0, 0, 0, []), some (.aload_n 0, 946, 0, 0, 0, 0, 0, 0, []), some (.iload_n 3, 947, 0, 3, 0, 0, 0, 0, []), some (.iconst 2, 948, 0, 0, 0, 0, 2, 0, []), some (.iadd, 949, 0, 0, 0, 0, 0, 0, []), some (.iaload, 950, 0, 0, 0, 0, 0, 0, []), some (.aload_n 0, 951, 0, 0, 0, 0, 0, 0, []), some (.iload_n 3, 952, 0, 3, 0, 0, 0, 0, []), some (.iconst 3, 953, 0, 0, 0, 0, 3, 0, []), some (.iadd, 954, 0, 0, 0, 0, 0, 0, []), some (.iaload, 955, 0, 0, 0, 0, 0, 0, []), some (.invokevirtual 118, 958, 8, 118, 3, 772, 0, 0, []), none, none, some (.aload_n 2, 959, 0, 2, 0, 0, 0, 0, []), some (.aload_n 0, 960, 0, 0, 0, 0, 0, 0, [])]
def am_t_law_60 : List (Option am_I) := [some (.iload_n 3, 961, 0, 3, 0, 0, 0, 0, []), some (.iconst 1, 962, 0, 0, 0, 0, 1, 0, []), some (.iadd, 963, 0, 0, 0, 0, 0, 0, []), some (.iaload, 964, 0, 0, 0, 0, 0, 0, []), some (.aload_n 0, 965, 0, 0, 0, 0, 0, 0, []), some (.iload_n 3, 966, 0, 3, 0, 0, 0, 0, []), some (.iconst 2, 967, 0, 0, 0, 0, 2, 0, []), some (.iadd, 968, 0, 0, 0, 0, 0, 0, []), some (.iaload, 969, 0, 0, 0, 0, 0, 0, []), some (.aload_n 0, 970, 0, 0, 0, 0, 0, 0, []), some (.iload_n 3, 971, 0, 3, 0, 0, 0, 0, []), some (.iconst 3, 972, 0, 0, 0, 0, 3, 0, []), some (.iadd, 973, 0, 0, 0, 0, 0, 0, []), some (.iaload, 974, 0, 0, 0, 0, 0, 0, []), some (.invokevirtual 121, 977, 9, 208, 3, 1251, 0, 0, []), none]
def am_t_law_61 : List (Option am_I) := [none, some (.if_icmp .eq 199, 980, 1176, 0, 0, 0, 0, 0, []), none, none, some (.iconst 0, 981, 0, 0, 0, 0, 0, 0, []), some (.ireturn, 982, 1, 0, 0, 0, 0, 0, []), some (.aload_n 1, 983, 0, 1, 0, 0, 0, 0, []), some (.aload_n 0, 984, 0, 0, 0, 0, 0, 0, []), some (.iload_n 3, 985, 0, 3, 0, 0, 0, 0, []), some (.iconst 1, 986, 0, 0, 0, 0, 1, 0, []), some (.iadd, 987, 0, 0, 0, 0, 0, 0, []), some (.iaload, 988, 0, 0, 0, 0, 0, 0, []), some (.invokevirtual 122, 991, 8, 119, 1, 788, 0, 0, []), none, none, some (.aload_n 2, 992, 0, 2, 0, 0, 0, 0, [])]
def am_t_law_62 : List (Option am_I) := [some (.aload_n 0, 993, 0, 0, 0, 0, 0, 0, []), some (.iload_n 3, 994, 0, 3, 0, 0, 0, 0, []), some (.iconst 1, 995, 0, 0, 0, 0, 1, 0, []), some (.iadd, 996, 0, 0, 0, 0, 0, 0, []), some (.iaload, 997, 0, 0, 0, 0, 0, 0, []), some (.invokevirtual 125, 1000, 9, 209, 1, 1260, 0, 0, []), none, none, some (.if_icmp .eq 176, 1003, 1176, 0, 0, 0, 0, 0, []), none, none, some (.iconst 0, 1004, 0, 0, 0, 0, 0, 0, []), some (.ireturn, 1005, 1, 0, 0, 0, 0, 0, []), some (.aload_n 1, 1006, 0, 1, 0, 0, 0, 0, []), some (.aload_n 0, 1007, 0, 0, 0, 0, 0, 0, []), some (.iload_n 3, 1008, 0, 3, 0, 0, 0, 0, [])]
def am_t_law_63 : List (Option am_I) := [some (.iconst 1, 1009, 0, 0, 0, 0, 1, 0, []), some (.iadd, 1010, 0, 0, 0, 0, 0, 0, []), some (.iaload, 1011, 0, 0, 0, 0, 0, 0, []), some (.invokevirtual 126, 1014, 8, 120, 1, 796, 0, 0, []), none, none, some (.aload_n 2, 1015, 0, 2, 0, 0, 0, 0, []), some (.aload_n 0, 1016, 0, 0, 0, 0, 0, 0, []), some (.iload_n 3, 1017, 0, 3, 0, 0, 0, 0, []), some (.iconst 1, 1018, 0, 0, 0, 0, 1, 0, []), some (.iadd, 1019, 0, 0, 0, 0, 0, 0, []), some (.iaload, 1020, 0, 0, 0, 0, 0, 0, []), some (.invokevirtual 129, 1023, 9, 210, 1, 1264, 0, 0, []), none, none, some (.if_icmp .eq 153, 1026, 1176, 0, 0, 0, 0, 0, [])]
def am_t_law_64 : List (Option am_I) := [none, none, some (.iconst 0, 1027, 0, 0, 0, 0, 0, 0, []), some (.ireturn, 1028, 1, 0, 0, 0, 0, 0, []), some (.aload_n 1, 1029, 0, 1, 0, 0, 0, 0, []), some (.aload_n 0, 1030, 0, 0, 0, 0, 0, 0, []), some (.iload_n 3, 1031, 0, 3, 0, 0, 0, 0, []), some (.iconst 1, 1032, 0, 0, 0, 0, 1, 0, []), some (.iadd, 1033, 0, 0, 0, 0, 0, 0, []), some (.iaload, 1034, 0, 0, 0, 0, 0, 0, []), some (.invokevirtual 130, 1037, 8, 121, 1, 800, 0, 0, []), none, none, some (.aload_n 2, 1038, 0, 2, 0, 0, 0, 0, []), some (.aload_n 0, 1039, 0, 0, 0, 0, 0, 0, []), some (.iload_n 3, 1040, 0, 3, 0, 0, 0, 0, [])]
def am_t_law_65 : List (Option am_I) := [some (.iconst 1, 1041, 0, 0, 0, 0, 1, 0, []), some (.iadd, 1042, 0, 0, 0, 0, 0, 0, []), some (.iaload, 1043, 0, 0, 0, 0, 0, 0, []), some (.invokevirtual 133, 1046, 9, 211, 1, 1268, 0, 0, []), none, none, some (.if_icmp .eq 130, 1049, 1176, 0, 0, 0, 0, 0, []), none, none, some (.iconst 0, 1050, 0, 0, 0, 0, 0, 0, []), some (.ireturn, 1051, 1, 0, 0, 0, 0, 0, []), some (.aload_n 1, 1052, 0, 1, 0, 0, 0, 0, []), some (.aload_n 0, 1053, 0, 0, 0, 0, 0, 0, []), some (.iload_n 3, 1054, 0, 3, 0, 0, 0, 0, []), some (.iconst 1, 1055, 0, 0, 0, 0, 1, 0, []), some (.iadd, 1056, 0, 0, 0, 0, 0, 0, [])]
def am_t_law_66 : List (Option am_I) := [some (.iaload, 1057, 0, 0, 0, 0, 0, 0, []), some (.aload_n 0, 1058, 0, 0, 0, 0, 0, 0, []), some (.iload_n 3, 1059, 0, 3, 0, 0, 0, 0, []), some (.iconst 2, 1060, 0, 0, 0, 0, 2, 0, []), some (.iadd, 1061, 0, 0, 0, 0, 0, 0, []), some (.iaload, 1062, 0, 0, 0, 0, 0, 0, []), some (.invokevirtual 134, 1065, 8, 122, 2, 804, 0, 0, []), none, none, some (.aload_n 2, 1066, 0, 2, 0, 0, 0, 0, []), some (.aload_n 0, 1067, 0, 0, 0, 0, 0, 0, []), some (.iload_n 3, 1068, 0, 3, 0, 0, 0, 0, []), some (.iconst 1, 1069, 0, 0, 0, 0, 1, 0, []), some (.iadd, 1070, 0, 0, 0, 0, 0, 0, []), some (.iaload, 1071, 0, 0, 0, 0, 0, 0, []), some (.aload_n 0, 1072, 0, 0, 0, 0, 0, 0, [])]
def am_t_law_67 : List (Option am_I) := [some (.iload_n 3, 1073, 0, 3, 0, 0, 0, 0, []), some (.iconst 2, 1074, 0, 0, 0, 0, 2, 0, []), some (.iadd, 1075, 0, 0, 0, 0, 0, 0, []), some (.iaload, 1076, 0, 0, 0, 0, 0, 0, []), some (.invokevirtual 137, 1079, 9, 213, 2, 1272, 0, 0, []), none, none, some (.if_icmp .eq 97, 1082, 1176, 0, 0, 0, 0, 0, []), none, none, some (.iconst 0, 1083, 0, 0, 0, 0, 0, 0, []), some (.ireturn, 1084, 1, 0, 0, 0, 0, 0, []), some (.aload_n 1, 1085, 0, 1, 0, 0, 0, 0, []), some (.aload_n 0, 1086, 0, 0, 0, 0, 0, 0, []), some (.iload_n 3, 1087, 0, 3, 0, 0, 0, 0, []), some (.iconst 1, 1088, 0, 0, 0, 0, 1, 0, [])]
def am_t_law_68 : List (Option am_I) := [some (.iadd, 1089, 0, 0, 0, 0, 0, 0, []), some (.iaload, 1090, 0, 0, 0, 0, 0, 0, []), some (.aload_n 0, 1091, 0, 0, 0, 0, 0, 0, []), some (.iload_n 3, 1092, 0, 3, 0, 0, 0, 0, []), some (.iconst 2, 1093, 0, 0, 0, 0, 2, 0, []), some (.iadd, 1094, 0, 0, 0, 0, 0, 0, []), some (.iaload, 1095, 0, 0, 0, 0, 0, 0, []), some (.invokevirtual 138, 1098, 8, 123, 2, 811, 0, 0, []), none, none, some (.aload_n 2, 1099, 0, 2, 0, 0, 0, 0, []), some (.aload_n 0, 1100, 0, 0, 0, 0, 0, 0, []), some (.iload_n 3, 1101, 0, 3, 0, 0, 0, 0, []), some (.iconst 1, 1102, 0, 0, 0, 0, 1, 0, []), some (.iadd, 1103, 0, 0, 0, 0, 0, 0, []), some (.iaload, 1104, 0, 0, 0, 0, 0, 0, [])]
def am_t_law_69 : List (Option am_I) := [some (.aload_n 0, 1105, 0, 0, 0, 0, 0, 0, []), some (.iload_n 3, 1106, 0, 3, 0, 0, 0, 0, []), some (.iconst 2, 1107, 0, 0, 0, 0, 2, 0, []), some (.iadd, 1108, 0, 0, 0, 0, 0, 0, []), some (.iaload, 1109, 0, 0, 0, 0, 0, 0, []), some (.invokevirtual 141, 1112, 9, 223, 2, 1281, 0, 0, []), none, none, some (.if_icmp .eq 64, 1115, 1176, 0, 0, 0, 0, 0, []), none, none, some (.iconst 0, 1116, 0, 0, 0, 0, 0, 0, []), some (.ireturn, 1117, 1, 0, 0, 0, 0, 0, []), some (.aload_n 1, 1118, 0, 1, 0, 0, 0, 0, []), some (.aload_n 0, 1119, 0, 0, 0, 0, 0, 0, []), some (.iload_n 3, 1120, 0, 3, 0, 0, 0, 0, [])]
def am_t_law_70 : List (Option am_I) := [some (.iconst 1, 1121, 0, 0, 0, 0, 1, 0, []), some (.iadd, 1122, 0, 0, 0, 0, 0, 0, []), some (.iaload, 1123, 0, 0, 0, 0, 0, 0, []), some (.invokevirtual 142, 1126, 8, 124, 1, 872, 0, 0, []), none, none, some (.aload_n 2, 1127, 0, 2, 0, 0, 0, 0, []), some (.aload_n 0, 1128, 0, 0, 0, 0, 0, 0, []), some (.iload_n 3, 1129, 0, 3, 0, 0, 0, 0, []), some (.iconst 1, 1130, 0, 0, 0, 0, 1, 0, []), some (.iadd, 1131, 0, 0, 0, 0, 0, 0, []), some (.iaload, 1132, 0, 0, 0, 0, 0, 0, []), some (.invokevirtual 145, 1135, 9, 224, 1, 1321, 0, 0, []), none, none, some (.if_icmp .eq 41, 1138, 1176, 0, 0, 0, 0, 0, [])]
def am_t_law_71 : List (Option am_I) := [none, none, some (.iconst 0, 1139, 0, 0, 0, 0, 0, 0, []), some (.ireturn, 1140, 1, 0, 0, 0, 0, 0, []), some (.aload_n 1, 1141, 0, 1, 0, 0, 0, 0, []), some (.aload_n 0, 1142, 0, 0, 0, 0, 0, 0, []), some (.iload_n 3, 1143, 0, 3, 0, 0, 0, 0, []), some (.iconst 1, 1144, 0, 0, 0, 0, 1, 0, []), some (.iadd, 1145, 0, 0, 0, 0, 0, 0, []), some (.iaload, 1146, 0, 0, 0, 0, 0, 0, []), some (.invokevirtual 146, 1149, 8, 125, 1, 881, 0, 0, []), none, none, some (.aload_n 2, 1150, 0, 2, 0, 0, 0, 0, []), some (.aload_n 0, 1151, 0, 0, 0, 0, 0, 0, []), some (.iload_n 3, 1152, 0, 3, 0, 0, 0, 0, [])]
def am_t_law_72 : List (Option am_I) := [some (.iconst 1, 1153, 0, 0, 0, 0, 1, 0, []), some (.iadd, 1154, 0, 0, 0, 0, 0, 0, []), some (.iaload, 1155, 0, 0, 0, 0, 0, 0, []), some (.invokevirtual 149, 1158, 9, 225, 1, 1325, 0, 0, []), none, none, some (.if_icmp .eq 18, 1161, 1176, 0, 0, 0, 0, 0, []), none, none, some (.iconst 0, 1162, 0, 0, 0, 0, 0, 0, []), some (.ireturn, 1163, 1, 0, 0, 0, 0, 0, []), some (.aload_n 1, 1164, 0, 1, 0, 0, 0, 0, []), some (.invokevirtual 150, 1167, 8, 126, 0, 889, 0, 0, []), none, none, some (.aload_n 2, 1168, 0, 2, 0, 0, 0, 0, [])]
def am_t_law_73 : List (Option am_I) := [some (.invokevirtual 153, 1171, 9, 226, 0, 1329, 0, 0, []), none, none, some (.if_icmp .eq 5, 1174, 1176, 0, 0, 0, 0, 0, []), none, none, some (.iconst 0, 1175, 0, 0, 0, 0, 0, 0, []), some (.ireturn, 1176, 1, 0, 0, 0, 0, 0, []), some (.iinc 3 6, 1179, 0, 3, 0, 0, 6, 0, []), none, none, some (.goto (-1161), 1182, 18, 0, 0, 0, 0, 0, []), none, none, some (.iconst 1, 1183, 0, 0, 0, 0, 1, 0, []), some (.ireturn, 1184, 1, 0, 0, 0, 0, 0, [])]
def am_t_law : am_T := [am_t_law_0, am_t_law_1, am_t_law_2, am_t_law_3, am_t_law_4, am_t_law_5, am_t_law_6, am_t_law_7, am_t_law_8, am_t_law_9, am_t_law_10, am_t_law_11, am_t_law_12, am_t_law_13, am_t_law_14, am_t_law_15, am_t_law_16, am_t_law_17, am_t_law_18, am_t_law_19, am_t_law_20, am_t_law_21, am_t_law_22, am_t_law_23, am_t_law_24, am_t_law_25, am_t_law_26, am_t_law_27, am_t_law_28, am_t_law_29, am_t_law_30, am_t_law_31, am_t_law_32, am_t_law_33, am_t_law_34, am_t_law_35, am_t_law_36, am_t_law_37, am_t_law_38, am_t_law_39, am_t_law_40, am_t_law_41, am_t_law_42, am_t_law_43, am_t_law_44, am_t_law_45, am_t_law_46, am_t_law_47, am_t_law_48, am_t_law_49, am_t_law_50, am_t_law_51, am_t_law_52, am_t_law_53, am_t_law_54, am_t_law_55, am_t_law_56, am_t_law_57, am_t_law_58, am_t_law_59, am_t_law_60, am_t_law_61, am_t_law_62, am_t_law_63, am_t_law_64, am_t_law_65, am_t_law_66, am_t_law_67, am_t_law_68, am_t_law_69, am_t_law_70, am_t_law_71, am_t_law_72, am_t_law_73]
theorem am_q_law_0 : am_okQ (am_ok1 am_mt RL "law" code 4 (some .boolean)) 0 am_t_law_0 = true := by decide +kernel
theorem am_q_law_1 : am_okQ (am_ok1 am_mt RL "law" code 4 (some .boolean)) 1 am_t_law_1 = true := by decide +kernel
theorem am_q_law_2 : am_okQ (am_ok1 am_mt RL "law" code 4 (some .boolean)) 2 am_t_law_2 = true := by decide +kernel
theorem am_q_law_3 : am_okQ (am_ok1 am_mt RL "law" code 4 (some .boolean)) 3 am_t_law_3 = true := by decide +kernel
theorem am_q_law_4 : am_okQ (am_ok1 am_mt RL "law" code 4 (some .boolean)) 4 am_t_law_4 = true := by decide +kernel
theorem am_q_law_5 : am_okQ (am_ok1 am_mt RL "law" code 4 (some .boolean)) 5 am_t_law_5 = true := by decide +kernel
theorem am_q_law_6 : am_okQ (am_ok1 am_mt RL "law" code 4 (some .boolean)) 6 am_t_law_6 = true := by decide +kernel
theorem am_q_law_7 : am_okQ (am_ok1 am_mt RL "law" code 4 (some .boolean)) 7 am_t_law_7 = true := by decide +kernel
theorem am_q_law_8 : am_okQ (am_ok1 am_mt RL "law" code 4 (some .boolean)) 8 am_t_law_8 = true := by decide +kernel
theorem am_q_law_9 : am_okQ (am_ok1 am_mt RL "law" code 4 (some .boolean)) 9 am_t_law_9 = true := by decide +kernel
theorem am_q_law_10 : am_okQ (am_ok1 am_mt RL "law" code 4 (some .boolean)) 10 am_t_law_10 = true := by decide +kernel
theorem am_q_law_11 : am_okQ (am_ok1 am_mt RL "law" code 4 (some .boolean)) 11 am_t_law_11 = true := by decide +kernel
theorem am_q_law_12 : am_okQ (am_ok1 am_mt RL "law" code 4 (some .boolean)) 12 am_t_law_12 = true := by decide +kernel
theorem am_q_law_13 : am_okQ (am_ok1 am_mt RL "law" code 4 (some .boolean)) 13 am_t_law_13 = true := by decide +kernel
theorem am_q_law_14 : am_okQ (am_ok1 am_mt RL "law" code 4 (some .boolean)) 14 am_t_law_14 = true := by decide +kernel
theorem am_q_law_15 : am_okQ (am_ok1 am_mt RL "law" code 4 (some .boolean)) 15 am_t_law_15 = true := by decide +kernel
theorem am_q_law_16 : am_okQ (am_ok1 am_mt RL "law" code 4 (some .boolean)) 16 am_t_law_16 = true := by decide +kernel
theorem am_q_law_17 : am_okQ (am_ok1 am_mt RL "law" code 4 (some .boolean)) 17 am_t_law_17 = true := by decide +kernel
theorem am_q_law_18 : am_okQ (am_ok1 am_mt RL "law" code 4 (some .boolean)) 18 am_t_law_18 = true := by decide +kernel
theorem am_q_law_19 : am_okQ (am_ok1 am_mt RL "law" code 4 (some .boolean)) 19 am_t_law_19 = true := by decide +kernel
theorem am_q_law_20 : am_okQ (am_ok1 am_mt RL "law" code 4 (some .boolean)) 20 am_t_law_20 = true := by decide +kernel
theorem am_q_law_21 : am_okQ (am_ok1 am_mt RL "law" code 4 (some .boolean)) 21 am_t_law_21 = true := by decide +kernel
theorem am_q_law_22 : am_okQ (am_ok1 am_mt RL "law" code 4 (some .boolean)) 22 am_t_law_22 = true := by decide +kernel
theorem am_q_law_23 : am_okQ (am_ok1 am_mt RL "law" code 4 (some .boolean)) 23 am_t_law_23 = true := by decide +kernel
theorem am_q_law_24 : am_okQ (am_ok1 am_mt RL "law" code 4 (some .boolean)) 24 am_t_law_24 = true := by decide +kernel
theorem am_q_law_25 : am_okQ (am_ok1 am_mt RL "law" code 4 (some .boolean)) 25 am_t_law_25 = true := by decide +kernel
theorem am_q_law_26 : am_okQ (am_ok1 am_mt RL "law" code 4 (some .boolean)) 26 am_t_law_26 = true := by decide +kernel
theorem am_q_law_27 : am_okQ (am_ok1 am_mt RL "law" code 4 (some .boolean)) 27 am_t_law_27 = true := by decide +kernel
theorem am_q_law_28 : am_okQ (am_ok1 am_mt RL "law" code 4 (some .boolean)) 28 am_t_law_28 = true := by decide +kernel
theorem am_q_law_29 : am_okQ (am_ok1 am_mt RL "law" code 4 (some .boolean)) 29 am_t_law_29 = true := by decide +kernel
theorem am_q_law_30 : am_okQ (am_ok1 am_mt RL "law" code 4 (some .boolean)) 30 am_t_law_30 = true := by decide +kernel
theorem am_q_law_31 : am_okQ (am_ok1 am_mt RL "law" code 4 (some .boolean)) 31 am_t_law_31 = true := by decide +kernel
theorem am_q_law_32 : am_okQ (am_ok1 am_mt RL "law" code 4 (some .boolean)) 32 am_t_law_32 = true := by decide +kernel
theorem am_q_law_33 : am_okQ (am_ok1 am_mt RL "law" code 4 (some .boolean)) 33 am_t_law_33 = true := by decide +kernel
theorem am_q_law_34 : am_okQ (am_ok1 am_mt RL "law" code 4 (some .boolean)) 34 am_t_law_34 = true := by decide +kernel
theorem am_q_law_35 : am_okQ (am_ok1 am_mt RL "law" code 4 (some .boolean)) 35 am_t_law_35 = true := by decide +kernel
theorem am_q_law_36 : am_okQ (am_ok1 am_mt RL "law" code 4 (some .boolean)) 36 am_t_law_36 = true := by decide +kernel
theorem am_q_law_37 : am_okQ (am_ok1 am_mt RL "law" code 4 (some .boolean)) 37 am_t_law_37 = true := by decide +kernel
theorem am_q_law_38 : am_okQ (am_ok1 am_mt RL "law" code 4 (some .boolean)) 38 am_t_law_38 = true := by decide +kernel
theorem am_q_law_39 : am_okQ (am_ok1 am_mt RL "law" code 4 (some .boolean)) 39 am_t_law_39 = true := by decide +kernel
theorem am_q_law_40 : am_okQ (am_ok1 am_mt RL "law" code 4 (some .boolean)) 40 am_t_law_40 = true := by decide +kernel
theorem am_q_law_41 : am_okQ (am_ok1 am_mt RL "law" code 4 (some .boolean)) 41 am_t_law_41 = true := by decide +kernel
theorem am_q_law_42 : am_okQ (am_ok1 am_mt RL "law" code 4 (some .boolean)) 42 am_t_law_42 = true := by decide +kernel
theorem am_q_law_43 : am_okQ (am_ok1 am_mt RL "law" code 4 (some .boolean)) 43 am_t_law_43 = true := by decide +kernel
theorem am_q_law_44 : am_okQ (am_ok1 am_mt RL "law" code 4 (some .boolean)) 44 am_t_law_44 = true := by decide +kernel
theorem am_q_law_45 : am_okQ (am_ok1 am_mt RL "law" code 4 (some .boolean)) 45 am_t_law_45 = true := by decide +kernel
theorem am_q_law_46 : am_okQ (am_ok1 am_mt RL "law" code 4 (some .boolean)) 46 am_t_law_46 = true := by decide +kernel
theorem am_q_law_47 : am_okQ (am_ok1 am_mt RL "law" code 4 (some .boolean)) 47 am_t_law_47 = true := by decide +kernel
theorem am_q_law_48 : am_okQ (am_ok1 am_mt RL "law" code 4 (some .boolean)) 48 am_t_law_48 = true := by decide +kernel
theorem am_q_law_49 : am_okQ (am_ok1 am_mt RL "law" code 4 (some .boolean)) 49 am_t_law_49 = true := by decide +kernel
theorem am_q_law_50 : am_okQ (am_ok1 am_mt RL "law" code 4 (some .boolean)) 50 am_t_law_50 = true := by decide +kernel
theorem am_q_law_51 : am_okQ (am_ok1 am_mt RL "law" code 4 (some .boolean)) 51 am_t_law_51 = true := by decide +kernel
theorem am_q_law_52 : am_okQ (am_ok1 am_mt RL "law" code 4 (some .boolean)) 52 am_t_law_52 = true := by decide +kernel
theorem am_q_law_53 : am_okQ (am_ok1 am_mt RL "law" code 4 (some .boolean)) 53 am_t_law_53 = true := by decide +kernel
theorem am_q_law_54 : am_okQ (am_ok1 am_mt RL "law" code 4 (some .boolean)) 54 am_t_law_54 = true := by decide +kernel
theorem am_q_law_55 : am_okQ (am_ok1 am_mt RL "law" code 4 (some .boolean)) 55 am_t_law_55 = true := by decide +kernel
theorem am_q_law_56 : am_okQ (am_ok1 am_mt RL "law" code 4 (some .boolean)) 56 am_t_law_56 = true := by decide +kernel
theorem am_q_law_57 : am_okQ (am_ok1 am_mt RL "law" code 4 (some .boolean)) 57 am_t_law_57 = true := by decide +kernel
theorem am_q_law_58 : am_okQ (am_ok1 am_mt RL "law" code 4 (some .boolean)) 58 am_t_law_58 = true := by decide +kernel
theorem am_q_law_59 : am_okQ (am_ok1 am_mt RL "law" code 4 (some .boolean)) 59 am_t_law_59 = true := by decide +kernel
theorem am_q_law_60 : am_okQ (am_ok1 am_mt RL "law" code 4 (some .boolean)) 60 am_t_law_60 = true := by decide +kernel
theorem am_q_law_61 : am_okQ (am_ok1 am_mt RL "law" code 4 (some .boolean)) 61 am_t_law_61 = true := by decide +kernel
theorem am_q_law_62 : am_okQ (am_ok1 am_mt RL "law" code 4 (some .boolean)) 62 am_t_law_62 = true := by decide +kernel
theorem am_q_law_63 : am_okQ (am_ok1 am_mt RL "law" code 4 (some .boolean)) 63 am_t_law_63 = true := by decide +kernel
theorem am_q_law_64 : am_okQ (am_ok1 am_mt RL "law" code 4 (some .boolean)) 64 am_t_law_64 = true := by decide +kernel
theorem am_q_law_65 : am_okQ (am_ok1 am_mt RL "law" code 4 (some .boolean)) 65 am_t_law_65 = true := by decide +kernel
theorem am_q_law_66 : am_okQ (am_ok1 am_mt RL "law" code 4 (some .boolean)) 66 am_t_law_66 = true := by decide +kernel
theorem am_q_law_67 : am_okQ (am_ok1 am_mt RL "law" code 4 (some .boolean)) 67 am_t_law_67 = true := by decide +kernel
theorem am_q_law_68 : am_okQ (am_ok1 am_mt RL "law" code 4 (some .boolean)) 68 am_t_law_68 = true := by decide +kernel
theorem am_q_law_69 : am_okQ (am_ok1 am_mt RL "law" code 4 (some .boolean)) 69 am_t_law_69 = true := by decide +kernel
theorem am_q_law_70 : am_okQ (am_ok1 am_mt RL "law" code 4 (some .boolean)) 70 am_t_law_70 = true := by decide +kernel
theorem am_q_law_71 : am_okQ (am_ok1 am_mt RL "law" code 4 (some .boolean)) 71 am_t_law_71 = true := by decide +kernel
theorem am_q_law_72 : am_okQ (am_ok1 am_mt RL "law" code 4 (some .boolean)) 72 am_t_law_72 = true := by decide +kernel
theorem am_q_law_73 : am_okQ (am_ok1 am_mt RL "law" code 4 (some .boolean)) 73 am_t_law_73 = true := by decide +kernel
theorem am_q_law : am_okT (am_ok1 am_mt RL "law" code 4 (some .boolean)) 0 am_t_law = true := am_okT_c am_q_law_0 (am_okT_c am_q_law_1 (am_okT_c am_q_law_2 (am_okT_c am_q_law_3 (am_okT_c am_q_law_4 (am_okT_c am_q_law_5 (am_okT_c am_q_law_6 (am_okT_c am_q_law_7 (am_okT_c am_q_law_8 (am_okT_c am_q_law_9 (am_okT_c am_q_law_10 (am_okT_c am_q_law_11 (am_okT_c am_q_law_12 (am_okT_c am_q_law_13 (am_okT_c am_q_law_14 (am_okT_c am_q_law_15 (am_okT_c am_q_law_16 (am_okT_c am_q_law_17 (am_okT_c am_q_law_18 (am_okT_c am_q_law_19 (am_okT_c am_q_law_20 (am_okT_c am_q_law_21 (am_okT_c am_q_law_22 (am_okT_c am_q_law_23 (am_okT_c am_q_law_24 (am_okT_c am_q_law_25 (am_okT_c am_q_law_26 (am_okT_c am_q_law_27 (am_okT_c am_q_law_28 (am_okT_c am_q_law_29 (am_okT_c am_q_law_30 (am_okT_c am_q_law_31 (am_okT_c am_q_law_32 (am_okT_c am_q_law_33 (am_okT_c am_q_law_34 (am_okT_c am_q_law_35 (am_okT_c am_q_law_36 (am_okT_c am_q_law_37 (am_okT_c am_q_law_38 (am_okT_c am_q_law_39 (am_okT_c am_q_law_40 (am_okT_c am_q_law_41 (am_okT_c am_q_law_42 (am_okT_c am_q_law_43 (am_okT_c am_q_law_44 (am_okT_c am_q_law_45 (am_okT_c am_q_law_46 (am_okT_c am_q_law_47 (am_okT_c am_q_law_48 (am_okT_c am_q_law_49 (am_okT_c am_q_law_50 (am_okT_c am_q_law_51 (am_okT_c am_q_law_52 (am_okT_c am_q_law_53 (am_okT_c am_q_law_54 (am_okT_c am_q_law_55 (am_okT_c am_q_law_56 (am_okT_c am_q_law_57 (am_okT_c am_q_law_58 (am_okT_c am_q_law_59 (am_okT_c am_q_law_60 (am_okT_c am_q_law_61 (am_okT_c am_q_law_62 (am_okT_c am_q_law_63 (am_okT_c am_q_law_64 (am_okT_c am_q_law_65 (am_okT_c am_q_law_66 (am_okT_c am_q_law_67 (am_okT_c am_q_law_68 (am_okT_c am_q_law_69 (am_okT_c am_q_law_70 (am_okT_c am_q_law_71 (am_okT_c am_q_law_72 (am_okT_c am_q_law_73 (rfl))))))))))))))))))))))))))))))))))))))))))))))))))))))))))))))))))))))))))
end
section
def am_ms : List am_M := am_ms0 ++ (am_ms1 ++ (am_ms2 ++ (am_ms3 ++ (am_ms4 ++ (am_ms5 ++ (am_ms6 ++ (am_ms7 ++ (am_ms8 ++ (am_ms9 ++ (am_ms10))))))))))
theorem am_ms_ok : ∀ M ∈ am_ms, am_okM am_mt M := List.forall_mem_append.mpr ⟨am_ms0_ok, List.forall_mem_append.mpr ⟨am_ms1_ok, List.forall_mem_append.mpr ⟨am_ms2_ok, List.forall_mem_append.mpr ⟨am_ms3_ok, List.forall_mem_append.mpr ⟨am_ms4_ok, List.forall_mem_append.mpr ⟨am_ms5_ok, List.forall_mem_append.mpr ⟨am_ms6_ok, List.forall_mem_append.mpr ⟨am_ms7_ok, List.forall_mem_append.mpr ⟨am_ms8_ok, List.forall_mem_append.mpr ⟨am_ms9_ok, am_ms10_ok⟩⟩⟩⟩⟩⟩⟩⟩⟩⟩
theorem am_ms_hs : am_ms.map am_hd ++ [(yJ9_max_7cf53, 2, 0), (yJ9_min_7cf53, 2, 0)] = am_hs := by decide +kernel
theorem am_mt_max : am_mt 228 = some (yJ9_max_7cf53, 2, 0) := by decide +kernel
theorem am_mt_min : am_mt 229 = some (yJ9_min_7cf53, 2, 0) := by decide +kernel
end
section
/-! one instruction of my machine -/
def am_no : am_R := .inr (.inr (.inr (.inr (.inr ()))))
def am_two : Option (Option Value) → Bool
  | some (some (.long _)) => true
  | some (some (.double _)) => true
  | _ => false
def am_st1 (L : am_L) (i : Nat) (x : Value) : Option am_L := match Nat.blt i L.length with
  | true => (match i with
    | 0 => some (L.set 0 (some x))
    | j + 1 => (match am_two L[j]? with
      | true => none
      | false => some (L.set (j + 1) (some x))))
  | false => none
def am_st2 (L : am_L) (i : Nat) (x : Value) : Option am_L := match Nat.blt (i + 1) L.length with
  | true => (match i with
    | 0 => some ((L.set 0 (some x)).set 1 none)
    | j + 1 => (match am_two L[j]? with
      | true => none
      | false => some ((L.set (j + 1) (some x)).set (j + 2) none)))
  | false => none
def am_put (o : Option am_L) (nx : Nat) (st : List Value) (h : am_H) : am_R := match o with
  | some L => .inl (nx, L, st, h)
  | none => am_no
def am_pop : Nat → List Value → List Value → Option (List Value × List Value)
  | 0, acc, st => some (acc, st)
  | n + 1, acc, v :: st => am_pop n (v :: acc) st
  | _ + 1, _, [] => none
def am_pick (x : Int32) : List (Int32 × Nat) → Nat → Nat
  | [], d => d
  | (k, t) :: r, d => if x = k then t else am_pick x r d
def am_cats : List Value → Nat
  | [] => 0
  | v :: r => v.category + am_cats r
def am_icmp (c : ClassFile.Cond) (x y : Int32) (t n : am_F) : am_R := match c with
  | .eq => .inr (.inl (x = y, t, n))
  | .ne => .inr (.inl (x = y, n, t))
  | .lt => .inr (.inl (x < y, t, n))
  | .ge => .inr (.inl (y ≤ x, t, n))
  | .gt => .inr (.inl (y < x, t, n))
  | .le => .inr (.inl (x ≤ y, t, n))
def am_if (c : ClassFile.Cond) (x : Int32) (t n : am_F) : am_R := match c with
  | .eq => .inr (.inl (x = 0, t, n))
  | .ne => .inr (.inl (x = 0, n, t))
  | .lt => .inr (.inl (x < 0, t, n))
  | .ge => .inr (.inl (0 ≤ x, t, n))
  | .gt => .inr (.inl (0 < x, t, n))
  | .le => .inr (.inl (x ≤ 0, t, n))
/-- new objects, by class: their fields as they are made -/
def am_blank : Nat → List Value
  | 0 => [.null, .int 0, .int 0]
  | 1 => [.null, .null, .int 0, .int 0]
  | 2 => [.null, .null, .null]
  | 3 => [.int 0, .int 0, .int 0, .int 0, .int 0, .int 0, .null, .null, .null, .null]
  | 4 => [.null, .null, .null]
  | 5 => [.null, .null, .null, .null, .null, .int 0, .int 0]
  | 6 => [.null, .null, .null]
  | 7 => [.null, .int 0, .int 0, .int 0]
  | 8 => [.null, .null, .null, .null, .null, .null, .null, .null, .null, .null, .null, .int 0, .int 0]
  | 9 => [.null, .int 0, .int 0, .null, .null, .null, .null, .null, .int 0, .int 0, .int 0, .null, .int 0, .int 0, .int 0, .int 0, .null, .null, .null]
  | _ => []

def am_i1 (st : List Value) (f : Int32 → List Value → am_R) : am_R := match st with
  | .int x :: r => f x r
  | _ => am_no
def am_i2 (st : List Value) (f : Int32 → Int32 → List Value → am_R) : am_R := match st with
  | .int y :: .int x :: r => f x y r
  | _ => am_no
def am_j1 (st : List Value) (f : Int64 → List Value → am_R) : am_R := match st with
  | .long x :: r => f x r
  | _ => am_no
def am_j2 (st : List Value) (f : Int64 → Int64 → List Value → am_R) : am_R := match st with
  | .long y :: .long x :: r => f x y r
  | _ => am_no
def am_r1 (st : List Value) (f : Nat → List Value → am_R) : am_R := match st with
  | .ref q :: r => f q r
  | _ => am_no
def am_v1 (st : List Value) (f : Value → List Value → am_R) : am_R := match st with
  | x :: r => f x r
  | _ => am_no
def am_ob (h : am_H) (q : Nat) (f : Nat → List Value → am_R) : am_R := match h[q]? with
  | some (.inr (ci, fs)) => f ci fs
  | _ => am_no
def am_ar (z : Bool) (h : am_H) (q : Nat) (f : Nat → (Nat → Int32) → am_R) : am_R := match h[q]? with
  | some (.inl (z', n, g)) => (match z', z with
    | true, true => f n g
    | false, false => f n g
    | _, _ => am_no)
  | _ => am_no
def am_bb (c : Bool) (x : am_R) : am_R := match c with
  | true => x
  | false => am_no
def am_lo (L : am_L) (a : Nat) (f : Value → am_R) : am_R := match L[a]? with
  | some (some v) => f v
  | _ => am_no
def am_vi (v : Value) (f : Int32 → am_R) : am_R := match v with
  | .int x => f x
  | _ => am_no
def am_vj (v : Value) (f : Int64 → am_R) : am_R := match v with
  | .long x => f x
  | _ => am_no
def am_va (v : Value) (f : Value → am_R) : am_R := match v with
  | .ref x => f (.ref x)
  | .retAddr x => f (.retAddr x)
  | _ => am_no
def am_vr (v : Value) (f : Nat → am_R) : am_R := match v with
  | .ref x => f x
  | _ => am_no
def am_sc (v : Value) (scr : Option (Nat × (Nat → Int32))) (f : Nat → (Nat → Int32) → am_R) : am_R := match v, scr with
  | .retAddr _, some (n, g) => f n g
  | _, _ => am_no
def am_pp (n : Nat) (st : List Value) (f : List Value → List Value → am_R) : am_R := match am_pop n [] st with
  | some (as, r) => f as r
  | none => am_no
def am_fl (fs : List Value) (k : Nat) (f : Value → am_R) : am_R := match fs[k]? with
  | some x => f x
  | none => am_no
def am_nil (st : List Value) (x : am_R) : am_R := match st with
  | [] => x
  | _ => am_no
def am_go (nx : Nat) (L : am_L) (st : List Value) (h : am_H) : am_R := .inl (nx, L, st, h)
def am_ck (c : Prop) (nx : Nat) (L : am_L) (st : List Value) (h : am_H) : am_R := .inr (.inr (.inl (c, (nx, L, st, h))))
def am_rt (c : Prop) (v : Option Value) : am_R := .inr (.inr (.inr (.inl (c, v))))
def am_cl (j : Nat) (as : List Value) (nx : Nat) (L : am_L) (st : List Value) (h : am_H) : am_R := .inr (.inr (.inr (.inr (.inl (j, as, (nx, L, st, h))))))
/-- a field is written: 0 an int, 1 a boolean, 2 a final one, by its maker -/
def am_pf (tg : Nat) (x : Value) (nx : Nat) (L : am_L) (r : List Value) (h : am_H) (q ci : Nat) (fs : List Value) (b : Nat) : am_R := match tg with
  | 0 => am_vi x (fun y => am_go nx L r (h.set q (.inr (ci, fs.set b (.int y)))))
  | 1 => am_vi x (fun y => am_ck (y = 0 ∨ y = 1) nx L r (h.set q (.inr (ci, fs.set b (.int y)))))
  | _ => am_vr x (fun y => am_go nx L r (h.set q (.inr (ci, fs.set b (.ref y)))))
/-- what lies at a place of an array; a place written -/
def am_rd (f : Nat → Int32) (i : Int32) : Int32 := f i.toNatClampNeg
def am_wr (f : Nat → Int32) (i x : Int32) : Nat → Int32 := upd f i.toNatClampNeg x
/-- an int is read: out of an array of mine, or out of the script -/
def am_il (scr : Option (Nat × (Nat → Int32))) (i : Int32) (v : Value) (nx : Nat) (L : am_L) (r : List Value) (h : am_H) : am_R := match v with
  | .ref q => am_ar false h q (fun n f => am_ck (vp_in i n) nx L (.int (am_rd f i) :: r) h)
  | v => am_sc v scr (fun n f => am_ck (vp_in i n) nx L (.int (am_rd f i) :: r) h)
def am_na (ty : ArrayType) (n : Int32) (b nx : Nat) (L : am_L) (r : List Value) (h : am_H) : am_R := match ty with
  | .int => am_ck (n = nI b ∧ b ≤ 1000) nx L (.ref h.length :: r) (h ++ [.inl (false, b, fun _ => 0)])
  | .boolean => am_ck (n = nI b ∧ b ≤ 1000) nx L (.ref h.length :: r) (h ++ [.inl (true, b, fun _ => 0)])
  | _ => am_no
/-- a static method: Math.max, Math.min at once, the others by a call -/
def am_mst (a b nx : Nat) (L : am_L) (st : List Value) (h : am_H) : am_R := match Nat.beq a 228 with
  | true => am_i2 st (fun x y r => am_bb (Nat.ble (am_cats r) 8) (am_go nx L (.int (if x < y then y else x) :: r) h))
  | false => (match Nat.beq a 229 with
    | true => am_i2 st (fun x y r => am_bb (Nat.ble (am_cats r) 8) (am_go nx L (.int (if y < x then y else x) :: r) h))
    | false => am_pp b st (fun as r => am_bb (Nat.ble (am_cats r) 8) (am_cl a as nx L r h)))
/-- one instruction, at known locals, stack and cells -/
def am_step (scr : Option (Nat × (Nat → Int32))) (E : am_I) (L : am_L) (st : List Value) (h : am_H) : am_R := match E with
  | (ins, nx, tg, a, b, _, v, lv, sw) => (match ins with
    | .iconst _ => am_go nx L (.int v :: st) h
    | .bipush _ => am_go nx L (.int v :: st) h
    | .sipush _ => am_go nx L (.int v :: st) h
    | .ldc _ => am_go nx L (.int v :: st) h
    | .ldc_w _ => am_go nx L (.int v :: st) h
    | .lconst _ => am_go nx L (.long lv :: st) h
    | .ldc2_w _ => am_go nx L (.long lv :: st) h
    | .iload _ => am_lo L a (fun x => am_vi x (fun x => am_go nx L (.int x :: st) h))
    | .iload_n _ => am_lo L a (fun x => am_vi x (fun x => am_go nx L (.int x :: st) h))
    | .lload _ => am_lo L a (fun x => am_vj x (fun x => am_go nx L (.long x :: st) h))
    | .lload_n _ => am_lo L a (fun x => am_vj x (fun x => am_go nx L (.long x :: st) h))
    | .aload _ => am_lo L a (fun x => am_va x (fun x => am_go nx L (x :: st) h))
    | .aload_n _ => am_lo L a (fun x => am_va x (fun x => am_go nx L (x :: st) h))
    | .istore _ => am_i1 st (fun x r => am_put (am_st1 L a (.int x)) nx r h)
    | .istore_n _ => am_i1 st (fun x r => am_put (am_st1 L a (.int x)) nx r h)
    | .astore _ => am_r1 st (fun x r => am_put (am_st1 L a (.ref x)) nx r h)
    | .astore_n _ => am_r1 st (fun x r => am_put (am_st1 L a (.ref x)) nx r h)
    | .lstore _ => am_j1 st (fun x r => am_put (am_st2 L a (.long x)) nx r h)
    | .lstore_n _ => am_j1 st (fun x r => am_put (am_st2 L a (.long x)) nx r h)
    | .iinc _ _ => am_lo L a (fun x => am_vi x (fun x => am_put (am_st1 L a (.int (x + v))) nx st h))
    | .iadd => am_i2 st (fun x y r => am_go nx L (.int (x + y) :: r) h)
    | .isub => am_i2 st (fun x y r => am_go nx L (.int (x - y) :: r) h)
    | .imul => am_i2 st (fun x y r => am_go nx L (.int (x * y) :: r) h)
    | .iand => am_i2 st (fun x y r => am_go nx L (.int (x &&& y) :: r) h)
    | .ior => am_i2 st (fun x y r => am_go nx L (.int (x ||| y) :: r) h)
    | .ixor => am_i2 st (fun x y r => am_go nx L (.int (x ^^^ y) :: r) h)
    | .ishl => am_i2 st (fun x y r => am_go nx L (.int (x <<< (y &&& 31)) :: r) h)
    | .ishr => am_i2 st (fun x y r => am_go nx L (.int (x >>> (y &&& 31)) :: r) h)
    | .iushr => am_i2 st (fun x y r => am_go nx L (.int (x.toUInt32 >>> (y.toUInt32 &&& Int32.toUInt32 31)).toInt32 :: r) h)
    | .idiv => am_i2 st (fun x y r => am_ck (¬ y = 0) nx L (.int (x / y) :: r) h)
    | .irem => am_i2 st (fun x y r => am_ck (¬ y = 0) nx L (.int (x - x / y * y) :: r) h)
    | .ladd => am_j2 st (fun x y r => am_go nx L (.long (x + y) :: r) h)
    | .lmul => am_j2 st (fun x y r => am_go nx L (.long (x * y) :: r) h)
    | .lrem => am_j2 st (fun x y r => am_ck (¬ y = 0) nx L (.long (x - x / y * y) :: r) h)
    | .lcmp => am_j2 st (fun x y r => am_go nx L (.int (lg_cmp x y) :: r) h)
    | .ineg => am_i1 st (fun x r => am_go nx L (.int (-x) :: r) h)
    | .i2l => am_i1 st (fun x r => am_go nx L (.long x.toInt64 :: r) h)
    | .l2i => am_j1 st (fun x r => am_go nx L (.int x.toInt32 :: r) h)
    | .i2b => am_i1 st (fun x r => am_go nx L (.int x.toInt8.toInt32 :: r) h)
    | .i2s => am_i1 st (fun x r => am_go nx L (.int x.toInt16.toInt32 :: r) h)
    | .dup => am_v1 st (fun x r => am_bb (Nat.beq x.category 1) (am_go nx L (x :: x :: r) h))
    | .dup2 => am_v1 st (fun x r => am_v1 r (fun y r => am_bb (Nat.beq x.category 1) (am_bb (Nat.beq y.category 1) (am_go nx L (x :: y :: x :: y :: r) h))))
    | .pop => am_v1 st (fun x r => am_bb (Nat.beq x.category 1) (am_go nx L r h))
    | .goto _ => am_go tg L st h
    | .if_icmp c _ => am_i2 st (fun x y r => am_icmp c x y (tg, L, r, h) (nx, L, r, h))
    | .ifCond c _ => am_i1 st (fun x r => am_if c x (tg, L, r, h) (nx, L, r, h))
    | .tableswitch _ _ _ _ => am_i1 st (fun x r => am_go (am_pick x sw tg) L r h)
    | .lookupswitch _ _ => am_i1 st (fun x r => am_go (am_pick x sw tg) L r h)
    | .getfield _ => am_r1 st (fun q r => am_ob h q (fun ci fs => am_bb (Nat.beq ci a) (am_fl fs b (fun x => am_go nx L (x :: r) h))))
    | .putfield _ => am_v1 st (fun x r => am_r1 r (fun q r => am_ob h q (fun ci fs => am_bb (Nat.beq ci a) (am_bb (Nat.blt b fs.length) (am_pf tg x nx L r h q ci fs b)))))
    | .iaload => am_i1 st (fun i r => am_v1 r (fun v r => am_il scr i v nx L r h))
    | .baload => am_i1 st (fun i r => am_r1 r (fun q r => am_ar true h q (fun n f => am_ck (vp_in i n) nx L (.int (am_rd f i) :: r) h)))
    | .iastore => am_i2 st (fun i x r => am_r1 r (fun q r => am_ar false h q (fun n f => am_ck (vp_in i n) nx L r (h.set q (.inl (false, n, am_wr f i x))))))
    | .bastore => am_i2 st (fun i x r => am_r1 r (fun q r => am_ar true h q (fun n f => am_ck (vp_in i n) nx L r (h.set q (.inl (true, n, am_wr f i (vp_nar .boolean x)))))))
    | .arraylength => am_v1 st (fun v r => am_sc v scr (fun n _ => am_go nx L (.int (Int32.ofNat n) :: r) h))
    | .new _ => am_go nx L (.ref h.length :: st) (h ++ [.inr (a, am_blank a)])
    | .newarray ty => am_i1 st (fun n r => am_na ty n b nx L r h)
    | .invokespecial _ => (match tg with
      | 2 => am_r1 st (fun _ r => am_bb (Nat.ble (am_cats r) 8) (am_go nx L r h))
      | _ => am_pp b st (fun as r => am_r1 r (fun q r => am_bb (Nat.ble (am_cats r) 8) (am_cl a (.ref q :: as) nx L r h))))
    | .invokevirtual _ => am_pp b st (fun as r => am_r1 r (fun q r => am_ob h q (fun ci _ => am_bb (Nat.beq ci tg) (am_bb (Nat.ble (am_cats r) 8) (am_cl a (.ref q :: as) nx L r h)))))
    | .invokestatic _ => (match tg with
      | 2 => am_i2 st (fun dp n r => am_r1 r (fun q1 r => am_i1 r (fun sp r => am_r1 r (fun q0 r => am_bb (Nat.ble (am_cats r) 8) (am_ar false h q0 (fun n0 f => am_ar false h q1 (fun n1 g => am_ck (¬ sp < 0 ∧ ¬ dp < 0 ∧ ¬ n < 0 ∧ sp.toNatClampNeg + n.toNatClampNeg ≤ n0 ∧ dp.toNatClampNeg + n.toNatClampNeg ≤ n1) nx L r (h.set q1 (.inl (false, n1, va_cpy f g sp.toNatClampNeg dp.toNatClampNeg n.toNatClampNeg))))))))))
      | _ => am_mst a b nx L st h)
    | .ireturn => am_i1 st (fun x r => am_nil r (match tg with
      | 0 => am_rt True (some (.int x))
      | _ => am_rt (x = 0 ∨ x = 1) (some (.int x))))
    | .areturn => am_r1 st (fun q r => am_nil r (am_rt True (some (.ref q))))
    | .return_ => am_nil st (am_rt True none)
    | _ => am_no)
/-- what an outcome asks of the places where it goes on, of its answer, of its call -/
def am_K (o : am_R) (K : am_F → Prop) (Kr : Prop → Option Value → Prop) (Kc : Nat → List Value → am_F → Prop) : Prop := match o with
  | .inl f => K f
  | .inr (.inl (c, f, g)) => (c → K f) ∧ (¬ c → K g)
  | .inr (.inr (.inl (c, f))) => c ∧ K f
  | .inr (.inr (.inr (.inl (c, w)))) => Kr c w
  | .inr (.inr (.inr (.inr (.inl (j, as, f))))) => Kc j as f
  | .inr (.inr (.inr (.inr (.inr _)))) => False
/-- a run: in at most n steps, the calls by C, it comes to an end with v and the cells h' -/
def am_run (scr : Option (Nat × (Nat → Int32))) (C : Nat → List Value → am_H → Option Value → am_H → Prop) (t : am_T) : Nat → am_F → Option Value → am_H → Prop
  | 0, _, _, _ => False
  | n + 1, f, v, h' => (match am_fetch t f.1 with
    | none => False
    | some E => am_K (am_step scr E f.2.1 f.2.2.1 f.2.2.2) (fun g => am_run scr C t n g v h') (fun c w => c ∧ v = w ∧ h' = f.2.2.2) (fun j as g => ∃ (w : Option Value) (h1 : am_H), C j as f.2.2.2 w h1 ∧ am_run scr C t n (g.1, g.2.1, w.toList ++ g.2.2.1, h1) v h'))
section
variable {K : am_F → Prop} {Kr : Prop → Option Value → Prop} {Kc : Nat → List Value → am_F → Prop}
theorem am_i1_inv {st : List Value} {f : Int32 → List Value → am_R} (hk : am_K (am_i1 st f) K Kr Kc) : ∃ (x : Int32) (r : List Value), st = .int x :: r ∧ am_K (f x r) K Kr Kc := by
  unfold am_i1 at hk
  split at hk
  · exact ⟨_, _, rfl, hk⟩
  · exact hk.elim
theorem am_i2_inv {st : List Value} {f : Int32 → Int32 → List Value → am_R} (hk : am_K (am_i2 st f) K Kr Kc) : ∃ (x y : Int32) (r : List Value), st = .int y :: .int x :: r ∧ am_K (f x y r) K Kr Kc := by
  unfold am_i2 at hk
  split at hk
  · exact ⟨_, _, _, rfl, hk⟩
  · exact hk.elim
theorem am_j1_inv {st : List Value} {f : Int64 → List Value → am_R} (hk : am_K (am_j1 st f) K Kr Kc) : ∃ (x : Int64) (r : List Value), st = .long x :: r ∧ am_K (f x r) K Kr Kc := by
  unfold am_j1 at hk
  split at hk
  · exact ⟨_, _, rfl, hk⟩
  · exact hk.elim
theorem am_j2_inv {st : List Value} {f : Int64 → Int64 → List Value → am_R} (hk : am_K (am_j2 st f) K Kr Kc) : ∃ (x y : Int64) (r : List Value), st = .long y :: .long x :: r ∧ am_K (f x y r) K Kr Kc := by
  unfold am_j2 at hk
  split at hk
  · exact ⟨_, _, _, rfl, hk⟩
  · exact hk.elim
theorem am_r1_inv {st : List Value} {f : Nat → List Value → am_R} (hk : am_K (am_r1 st f) K Kr Kc) : ∃ (x : Nat) (r : List Value), st = .ref x :: r ∧ am_K (f x r) K Kr Kc := by
  unfold am_r1 at hk
  split at hk
  · exact ⟨_, _, rfl, hk⟩
  · exact hk.elim
theorem am_v1_inv {st : List Value} {f : Value → List Value → am_R} (hk : am_K (am_v1 st f) K Kr Kc) : ∃ (x : Value) (r : List Value), st = x :: r ∧ am_K (f x r) K Kr Kc := by
  unfold am_v1 at hk
  split at hk
  · exact ⟨_, _, rfl, hk⟩
  · exact hk.elim
theorem am_ob_inv {h : am_H} {q : Nat} {f : Nat → List Value → am_R} (hk : am_K (am_ob h q f) K Kr Kc) : ∃ (ci : Nat) (fs : List Value), h[q]? = some (.inr (ci, fs)) ∧ am_K (f ci fs) K Kr Kc := by
  unfold am_ob at hk
  split at hk
  · exact ⟨_, _, by assumption, hk⟩
  · exact hk.elim
theorem am_lo_inv {L : am_L} {a : Nat} {f : Value → am_R} (hk : am_K (am_lo L a f) K Kr Kc) : ∃ v : Value, L[a]? = some (some v) ∧ am_K (f v) K Kr Kc := by
  unfold am_lo at hk
  split at hk
  · exact ⟨_, by assumption, hk⟩
  · exact hk.elim
theorem am_vi_inv {v : Value} {f : Int32 → am_R} (hk : am_K (am_vi v f) K Kr Kc) : ∃ x : Int32, v = .int x ∧ am_K (f x) K Kr Kc := by
  unfold am_vi at hk
  split at hk
  · exact ⟨_, rfl, hk⟩
  · exact hk.elim
theorem am_vj_inv {v : Value} {f : Int64 → am_R} (hk : am_K (am_vj v f) K Kr Kc) : ∃ x : Int64, v = .long x ∧ am_K (f x) K Kr Kc := by
  unfold am_vj at hk
  split at hk
  · exact ⟨_, rfl, hk⟩
  · exact hk.elim
theorem am_vr_inv {v : Value} {f : Nat → am_R} (hk : am_K (am_vr v f) K Kr Kc) : ∃ x : Nat, v = .ref x ∧ am_K (f x) K Kr Kc := by
  unfold am_vr at hk
  split at hk
  · exact ⟨_, rfl, hk⟩
  · exact hk.elim
theorem am_pp_inv {n : Nat} {st : List Value} {f : List Value → List Value → am_R} (hk : am_K (am_pp n st f) K Kr Kc) : ∃ as r : List Value, am_pop n [] st = some (as, r) ∧ am_K (f as r) K Kr Kc := by
  unfold am_pp at hk
  split at hk
  · exact ⟨_, _, by assumption, hk⟩
  · exact hk.elim
theorem am_fl_inv {fs : List Value} {k : Nat} {f : Value → am_R} (hk : am_K (am_fl fs k f) K Kr Kc) : ∃ x : Value, fs[k]? = some x ∧ am_K (f x) K Kr Kc := by
  unfold am_fl at hk
  split at hk
  · exact ⟨_, by assumption, hk⟩
  · exact hk.elim
theorem am_nil_inv {st : List Value} {x : am_R} (hk : am_K (am_nil st x) K Kr Kc) : st = [] ∧ am_K x K Kr Kc := by
  unfold am_nil at hk
  split at hk
  · exact ⟨rfl, hk⟩
  · exact hk.elim
theorem am_bb_inv {c : Bool} {x : am_R} (hk : am_K (am_bb c x) K Kr Kc) : c = true ∧ am_K x K Kr Kc := by
  unfold am_bb at hk
  split at hk
  · exact ⟨rfl, hk⟩
  · exact hk.elim
theorem am_va_inv {v : Value} {f : Value → am_R} (hk : am_K (am_va v f) K Kr Kc) : ((∃ x : Nat, v = .ref x) ∨ ∃ x : Nat, v = .retAddr x) ∧ am_K (f v) K Kr Kc := by
  unfold am_va at hk
  split at hk
  · exact ⟨Or.inl ⟨_, rfl⟩, hk⟩
  · exact ⟨Or.inr ⟨_, rfl⟩, hk⟩
  · exact hk.elim
theorem am_ar_inv {z : Bool} {h : am_H} {q : Nat} {f : Nat → (Nat → Int32) → am_R} (hk : am_K (am_ar z h q f) K Kr Kc) : ∃ (n : Nat) (g : Nat → Int32), h[q]? = some (.inl (z, n, g)) ∧ am_K (f n g) K Kr Kc := by
  unfold am_ar at hk
  split at hk
  · split at hk
    · exact ⟨_, _, by assumption, hk⟩
    · exact ⟨_, _, by assumption, hk⟩
    · exact hk.elim
  · exact hk.elim
theorem am_sc_inv {v : Value} {scr : Option (Nat × (Nat → Int32))} {f : Nat → (Nat → Int32) → am_R} (hk : am_K (am_sc v scr f) K Kr Kc) : ∃ (x n : Nat) (g : Nat → Int32), v = .retAddr x ∧ scr = some (n, g) ∧ am_K (f n g) K Kr Kc := by
  unfold am_sc at hk
  split at hk
  · exact ⟨_, _, _, rfl, rfl, hk⟩
  · exact hk.elim
theorem am_put_inv {o : Option am_L} {nx : Nat} {st : List Value} {h : am_H} (hk : am_K (am_put o nx st h) K Kr Kc) : ∃ L : am_L, o = some L ∧ K (nx, L, st, h) := by
  unfold am_put at hk
  split at hk
  · exact ⟨_, rfl, hk⟩
  · exact hk.elim
end
end
section
/-! what my machine's values, cells, locals are in the heap: cell i lies at b0 + i; the script at b -/
def am_cv (b0 b : Nat) : Value → Value
  | .ref i => .ref (b0 + i)
  | .retAddr _ => .ref b
  | v => v
def am_ce (b0 b : Nat) (cI cB : ClassId) : am_C → va_E
  | .inl (z, n, f) => .inl ((if z = true then cB else cI), n, .inl f)
  | .inr (ci, fs) => .inr (ci, fs.map (am_cv b0 b))
def am_cw (b0 b : Nat) (cI cB : ClassId) : Nat → am_H → va_W
  | _, [] => []
  | k, e :: h => (b0 + k, am_ce b0 b cI cB e) :: am_cw b0 b cI cB (k + 1) h
theorem am_cw_at {b0 b : Nat} {cI cB : ClassId} : ∀ (h : am_H) (k i : Nat), (am_cw b0 b cI cB k h)[i]? = (h[i]?).map (fun e => (b0 + (k + i), am_ce b0 b cI cB e))
  | [], k, i => by simp [am_cw]
  | e :: h, k, 0 => by simp [am_cw]
  | e :: h, k, i + 1 => by
    simp only [am_cw, List.getElem?_cons_succ]
    rw [am_cw_at h (k + 1) i, show k + 1 + i = k + (i + 1) by omega]
theorem am_cw_get {b0 b : Nat} {cI cB : ClassId} {h : am_H} {i : Nat} {e : am_C} (he : h[i]? = some e) : (am_cw b0 b cI cB 0 h)[i]? = some (b0 + i, am_ce b0 b cI cB e) := by
  rw [am_cw_at, he]; simp
theorem am_cw_set {b0 b : Nat} {cI cB : ClassId} {e : am_C} : ∀ (h : am_H) (k i : Nat), am_cw b0 b cI cB k (h.set i e) = (am_cw b0 b cI cB k h).set i (b0 + (k + i), am_ce b0 b cI cB e)
  | [], k, i => by simp [am_cw]
  | x :: h, k, 0 => by simp [am_cw]
  | x :: h, k, i + 1 => by
    simp only [am_cw, List.set_cons_succ]
    rw [am_cw_set h (k + 1) i, show k + 1 + i = k + (i + 1) by omega]
theorem am_cw_push {b0 b : Nat} {cI cB : ClassId} {e : am_C} : ∀ (h : am_H) (k : Nat), am_cw b0 b cI cB k (h ++ [e]) = am_cw b0 b cI cB k h ++ [(b0 + (k + h.length), am_ce b0 b cI cB e)]
  | [], k => by simp [am_cw]
  | x :: h, k => by
    simp only [am_cw, List.cons_append, List.length_cons]
    rw [am_cw_push h (k + 1), show k + 1 + h.length = k + (h.length + 1) by omega]
theorem am_cw_D {b0 b : Nat} {cI cB : ClassId} (h : am_H) : va_D (fun q => b0 ≤ q) (am_cw b0 b cI cB 0 h) := by
  have key : ∀ (i : Nat) (q : Nat × va_E), (am_cw b0 b cI cB 0 h)[i]? = some q → q.1 = b0 + i := by
    intro i q hq
    rw [am_cw_at] at hq
    cases he : h[i]? with
    | none => rw [he] at hq; cases hq
    | some e => rw [he] at hq; cases hq; simp
  refine ⟨fun i j p q hp hq hpq => ?_, fun k q hq => ?_⟩
  · have h1 := key i p hp
    have h2 := key j q hq
    omega
  · show b0 ≤ q.1
    rw [key k q hq]
    omega
def am_sz : am_C → Nat
  | .inl (_, n, _) => n
  | .inr (_, fs) => fs.length
def am_szs : am_H → Nat
  | [] => 0
  | e :: h => am_sz e + am_szs h
theorem am_szs_push (e : am_C) : ∀ h : am_H, am_szs (h ++ [e]) = am_szs h + am_sz e
  | [] => by simp [am_szs]
  | x :: h => by simp only [List.cons_append, am_szs, am_szs_push e h]; omega
theorem am_szs_set {e e0 : am_C} (hz : am_sz e = am_sz e0) : ∀ (h : am_H) (i : Nat), h[i]? = some e0 → am_szs (h.set i e) = am_szs h
  | [], i, h => by simp at h
  | x :: h, 0, hq => by
    simp at hq
    subst hq
    simp only [List.set_cons_zero, am_szs, hz]
  | x :: h, i + 1, hq => by
    rw [List.getElem?_cons_succ] at hq
    simp only [List.set_cons_succ, am_szs, am_szs_set hz h i hq]
def am_lh (b0 b : Nat) (ls : Array Slot) (nL : Nat) (L : am_L) : Prop := ls.size = nL ∧ lv_wf ls ∧ L.length = nL ∧ ∀ (i : Nat) (v : Value), L[i]? = some (some v) → ls[i]? = some (.val (am_cv b0 b v))
def am_ll (b0 b : Nat) : Nat → am_L → List (Nat × Value)
  | _, [] => []
  | k, none :: L => am_ll b0 b (k + 1) L
  | k, some v :: L => (k, am_cv b0 b v) :: am_ll b0 b (k + 1) L
theorem am_ll_in {b0 b : Nat} : ∀ (L : am_L) (k : Nat) (q : Nat × Value), q ∈ am_ll b0 b k L → ∃ (i : Nat) (v : Value), L[i]? = some (some v) ∧ q = (k + i, am_cv b0 b v)
  | [], k, q, h => by cases h
  | none :: L, k, q, h => by
    obtain ⟨i, v, h1, h2⟩ := am_ll_in L (k + 1) q h
    exact ⟨i + 1, v, by rw [List.getElem?_cons_succ]; exact h1, by rw [h2, show k + 1 + i = k + (i + 1) by omega]⟩
  | some w :: L, k, q, h => by
    rcases List.mem_cons.mp h with rfl | h
    · exact ⟨0, w, rfl, rfl⟩
    · obtain ⟨i, v, h1, h2⟩ := am_ll_in L (k + 1) q h
      exact ⟨i + 1, v, by rw [List.getElem?_cons_succ]; exact h1, by rw [h2, show k + 1 + i = k + (i + 1) by omega]⟩
theorem am_ll_of {b0 b : Nat} : ∀ (L : am_L) (k i : Nat) (v : Value), L[i]? = some (some v) → (k + i, am_cv b0 b v) ∈ am_ll b0 b k L
  | [], k, i, v, h => by simp at h
  | none :: L, k, 0, v, h => by simp at h
  | none :: L, k, i + 1, v, h => by
    rw [List.getElem?_cons_succ] at h
    rw [show k + (i + 1) = k + 1 + i by omega]
    exact am_ll_of L (k + 1) i v h
  | some w :: L, k, 0, v, h => by
    simp at h
    subst h
    exact List.mem_cons_self
  | some w :: L, k, i + 1, v, h => by
    rw [List.getElem?_cons_succ] at h
    rw [show k + (i + 1) = k + 1 + i by omega]
    exact List.mem_cons_of_mem _ (am_ll_of L (k + 1) i v h)
theorem am_lh_has {b0 b : Nat} {ls : Array Slot} {nL : Nat} {L : am_L} (h : am_lh b0 b ls nL L) : lv_has ls nL (am_ll b0 b 0 L) := by
  refine ⟨h.1, h.2.1, fun q hq => ?_⟩
  obtain ⟨i, v, h1, rfl⟩ := am_ll_in L 0 q hq
  rw [Nat.zero_add]
  exact h.2.2.2 i v h1
theorem am_cv_cat (b0 b : Nat) (v : Value) : (am_cv b0 b v).category = v.category := by cases v <;> rfl
theorem am_cats_eq (b0 b : Nat) : ∀ st : List Value, ((st.map (am_cv b0 b)).map fun v => v.category).sum = am_cats st
  | [] => rfl
  | v :: st => by
    simp only [List.map_cons, List.sum_cons, am_cats, am_cv_cat, am_cats_eq b0 b st]
theorem am_two_of {o : Option (Option Value)} (h : am_two o = false) (v : Value) (hv : o = some (some v)) : ¬ v.category = 2 := by
  subst hv
  cases v <;> simp [am_two, Value.category] at h ⊢
/-- the locals behind a store of one slot -/
theorem am_lh_st1 {b0 b : Nat} {ls ls' : Array Slot} {nL i : Nat} {L L' : am_L} {x : Value} (h : am_lh b0 b ls nL L) (hs : am_st1 L i x = some L') (h' : lv_has ls' nL ((i, am_cv b0 b x) :: (am_ll b0 b 0 L).filter (fun q => !(q.1 == i) && !(q.1 + 1 == i && q.2.category == 2)))) : am_lh b0 b ls' nL L' := by
  have key : L' = L.set i (some x) ∧ i < L.length ∧ ∀ j, i = j + 1 → am_two L[j]? = false := by
    unfold am_st1 at hs
    split at hs
    next hb =>
      have hlt : i < L.length := Nat.blt_eq.mp hb
      split at hs
      next => cases hs; exact ⟨rfl, hlt, fun j hj => by omega⟩
      next j =>
        split at hs
        next => cases hs
        next h2 => cases hs; exact ⟨rfl, hlt, fun j' hj => by cases hj; exact h2⟩
    next => cases hs
  obtain ⟨rfl, hlt, htwo⟩ := key
  refine ⟨h'.1, h'.2.1, by simpa using h.2.2.1, fun k v hk => ?_⟩
  by_cases hki : k = i
  · subst hki
    rw [List.getElem?_set_self hlt] at hk
    cases hk
    exact h'.2.2 (k, am_cv b0 b x) List.mem_cons_self
  · rw [List.getElem?_set_ne (fun z => hki z.symm)] at hk
    refine h'.2.2 (k, am_cv b0 b v) (List.mem_cons_of_mem _ (List.mem_filter.mpr ⟨?_, ?_⟩))
    · have := am_ll_of (b0 := b0) (b := b) L 0 k v hk
      rwa [Nat.zero_add] at this
    · simp only [am_cv_cat, Bool.and_eq_true, Bool.not_eq_true', beq_eq_false_iff_ne, Bool.and_eq_false_iff, ne_eq]
      refine ⟨hki, ?_⟩
      by_cases h1 : k + 1 = i
      · exact Or.inr (by simpa using am_two_of (htwo k h1.symm) v hk)
      · exact Or.inl h1
theorem am_lh_st2 {b0 b : Nat} {ls ls' : Array Slot} {nL i : Nat} {L L' : am_L} {x : Value} (h : am_lh b0 b ls nL L) (hs : am_st2 L i x = some L') (h' : lv_has ls' nL ((i, am_cv b0 b x) :: (am_ll b0 b 0 L).filter (fun q => !(q.1 == i) && (!(q.1 == i + 1) && !(q.1 + 1 == i && q.2.category == 2))))) : am_lh b0 b ls' nL L' := by
  have key : L' = (L.set i (some x)).set (i + 1) none ∧ i + 1 < L.length ∧ ∀ j, i = j + 1 → am_two L[j]? = false := by
    unfold am_st2 at hs
    split at hs
    next hb =>
      have hlt : i + 1 < L.length := Nat.blt_eq.mp hb
      split at hs
      next => cases hs; exact ⟨rfl, hlt, fun j hj => by omega⟩
      next j =>
        split at hs
        next => cases hs
        next h2 => cases hs; exact ⟨rfl, hlt, fun j' hj => by cases hj; exact h2⟩
    next => cases hs
  obtain ⟨rfl, hlt, htwo⟩ := key
  refine ⟨h'.1, h'.2.1, by simpa using h.2.2.1, fun k v hk => ?_⟩
  by_cases hk1 : k = i + 1
  · subst hk1
    rw [List.getElem?_set_self (by simpa using hlt)] at hk
    cases hk
  rw [List.getElem?_set_ne (fun z => hk1 z.symm)] at hk
  by_cases hki : k = i
  · subst hki
    rw [List.getElem?_set_self (by omega)] at hk
    cases hk
    exact h'.2.2 (k, am_cv b0 b x) List.mem_cons_self
  · rw [List.getElem?_set_ne (fun z => hki z.symm)] at hk
    refine h'.2.2 (k, am_cv b0 b v) (List.mem_cons_of_mem _ (List.mem_filter.mpr ⟨?_, ?_⟩))
    · have := am_ll_of (b0 := b0) (b := b) L 0 k v hk
      rwa [Nat.zero_add] at this
    · simp only [am_cv_cat, Bool.and_eq_true, Bool.not_eq_true', beq_eq_false_iff_ne, Bool.and_eq_false_iff, ne_eq]
      refine ⟨hki, hk1, ?_⟩
      by_cases h1 : k + 1 = i
      · exact Or.inr (by simpa using am_two_of (htwo k h1.symm) v hk)
      · exact Or.inl h1
theorem am_st1_lt {L L' : am_L} {i : Nat} {x : Value} (hs : am_st1 L i x = some L') : i < L.length := by
  unfold am_st1 at hs
  split at hs
  next hb => exact Nat.blt_eq.mp hb
  next => cases hs
theorem am_st2_lt {L L' : am_L} {i : Nat} {x : Value} (hs : am_st2 L i x = some L') : i + 1 < L.length := by
  unfold am_st2 at hs
  split at hs
  next hb => exact Nat.blt_eq.mp hb
  next => cases hs
theorem am_pop_eq : ∀ (n : Nat) (acc st as r : List Value), am_pop n acc st = some (as, r) → ∃ xs : List Value, xs.length = n ∧ as = xs ++ acc ∧ st = xs.reverse ++ r
  | 0, acc, st, as, r, h => by cases h; exact ⟨[], rfl, rfl, rfl⟩
  | n + 1, acc, [], as, r, h => by cases h
  | n + 1, acc, v :: st, as, r, h => by
    obtain ⟨xs, h1, h2, h3⟩ := am_pop_eq n (v :: acc) st as r h
    exact ⟨xs ++ [v], by simp [h1], by simp [h2], by simp [h3]⟩
end
section
/-! an instruction of my machine is one of the JVM's -/
def am_rep (b0 b : Nat) (cI cB : ClassId) (dC : Nat → ClassId) (dI : Nat → Nat → Nat) (s : State) (nL : Nat) (H : Heap) (locs : List Loc) (ls : Array Slot) (L : am_L) (h : am_H) : Prop :=
  va_P (dC, dI) vwCl (am_cw b0 b cI cB 0 h) H ∧ va_S (fun q => b0 ≤ q) s.heap H locs ∧ am_lh b0 b ls nL L
/-- what a frame stands on -/
def am_ctx (p : Program) (s : State) (m : MethodId) (args : Array Value) (meth : Method) (c : Code) (b0 b : Nat) (cI cB : ClassId) (dC : Nat → ClassId) (dI : Nat → Nat → Nat) (cc : ByteArray) (own mnm : String) (nL n0 : Nat) (scr : Option (Nat × (Nat → Int32))) : Prop :=
  p.tables.exec = Jvm.exec ∧ c.code = cc ∧ c.maxLocals = nL ∧ s.vm.findClass own = some m.cls ∧ (∀ w ∈ am_ws, w.before args s = true) ∧ va_K (dC, dI) vwCl [(cI, .int), (cB, .boolean)] s ∧ (mnm = "<init>" → meth.name = mnm) ∧ s.heap.size = b0 + n0 ∧ ∀ (n : Nat) (xs : Nat → Int32), scr = some (n, xs) → va_X b n xs s s.heap ∧ b < b0
def am_cont (p : Program) (l : Launch) (e : Env) (R : Room) (s : State) (m : MethodId) (args : Array Value) (below : List Frame) (meth : Method) (c : Code) (Q : State → Prop) (b0 b : Nat) (cI cB : ClassId) (dC : Nat → ClassId) (dI : Nat → Nat → Nat) (nL n0 z0 : Nat) (f : am_F) : Prop :=
  (f.2.2.2.length ≤ R.cells + n0 ∧ am_szs f.2.2.2 ≤ R.slots + z0) ∧ ∀ (H : Heap) (locs : List Loc) (ls : Array Slot) (cells slots : Nat), am_rep b0 b cI cB dC dI s nL H locs ls f.2.1 f.2.2.2 → cells + n0 = f.2.2.2.length → slots + z0 = am_szs f.2.2.2 → W p l e R s m args below meth c H locs cells slots Q (F0 m f.1 ls (f.2.2.1.map (am_cv b0 b)))
theorem am_len_eq {pc n nx : Nat} (h : am_len pc n nx = true) : nx = pc + n := Nat.eq_of_beq_eq_true h
theorem am_dec {cc : ByteArray} {pc n nx : Nat} {i : Instr} (h : decode cc pc = .ok (i, nx - pc)) (hl : am_len pc n nx = true) : nx = pc + n ∧ decode cc pc = .ok (i, n) := by
  have e := am_len_eq hl
  subst e
  rw [Nat.add_sub_cancel_left] at h
  exact ⟨rfl, h⟩
theorem am_and {x y : Bool} (h : (x && y) = true) : x = true ∧ y = true := by simpa using h
theorem am_beq {a b : Nat} (h : Nat.beq a b = true) : a = b := Nat.eq_of_beq_eq_true h
/-- a class of the list: its fields' types, its words -/
theorem am_cls : ∀ (ci : Nat) (q : vw_C), vwCl[ci]? = some q → (∀ k, k < q.2.2 → parseFieldDescriptor (q.2.1 k).2.2.1 = some (am_ty ci k)) ∧ (∀ a, a < q.2.2 → ∀ b, b < q.2.2 → a ≠ b → (q.2.1 a).2.1 ≠ (q.2.1 b).2.1) ∧ (∀ w ∈ u_ws q.1 q.2.1 q.2.2, w ∈ am_ws) ∧ Jvm.Cond.instantiable q.1 q.2.2 ∈ am_ws ∧ Jvm.Cond.initialized q.1 ∈ am_ws ∧ (∀ j, j < q.2.2 → defaultValue (am_ty ci j) = vp_V (am_blank ci) j) ∧ (am_blank ci).length = q.2.2
  | 0, _, h => by
    cases h
    exact ⟨tyX0_ok, nmX0, by decide +kernel, by decide +kernel, by decide +kernel, by decide +kernel, by decide +kernel⟩
  | 1, _, h => by
    cases h
    exact ⟨tyX1_ok, nmX1, by decide +kernel, by decide +kernel, by decide +kernel, by decide +kernel, by decide +kernel⟩
  | 2, _, h => by
    cases h
    exact ⟨tyX2_ok, nmX2, by decide +kernel, by decide +kernel, by decide +kernel, by decide +kernel, by decide +kernel⟩
  | 3, _, h => by
    cases h
    exact ⟨tyX3_ok, nmX3, by decide +kernel, by decide +kernel, by decide +kernel, by decide +kernel, by decide +kernel⟩
  | 4, _, h => by
    cases h
    exact ⟨tyX4_ok, nmX4, by decide +kernel, by decide +kernel, by decide +kernel, by decide +kernel, by decide +kernel⟩
  | 5, _, h => by
    cases h
    exact ⟨tyX5_ok, nmX5, by decide +kernel, by decide +kernel, by decide +kernel, by decide +kernel, by decide +kernel⟩
  | 6, _, h => by
    cases h
    exact ⟨tyX6_ok, nmX6, by decide +kernel, by decide +kernel, by decide +kernel, by decide +kernel, by decide +kernel⟩
  | 7, _, h => by
    cases h
    exact ⟨tyX7_ok, nmX7, by decide +kernel, by decide +kernel, by decide +kernel, by decide +kernel, by decide +kernel⟩
  | 8, _, h => by
    cases h
    exact ⟨tyX8_ok, nmX8, by decide +kernel, by decide +kernel, by decide +kernel, by decide +kernel, by decide +kernel⟩
  | 9, _, h => by
    cases h
    exact ⟨tyX9_ok, nmX9, by decide +kernel, by decide +kernel, by decide +kernel, by decide +kernel, by decide +kernel⟩
  | n + 10, q, h => by simp [vwCl] at h
theorem am_szs_setF {h : am_H} {q ci ci' b : Nat} {fs : List Value} {v : Value} (hq : h[q]? = some (.inr (ci, fs))) : am_szs (h.set q (.inr (ci', fs.set b v))) = am_szs h := am_szs_set (by simp [am_sz]) h q hq
theorem am_szs_setA {h : am_H} {q n : Nat} {z z' : Bool} {g g' : Nat → Int32} (hq : h[q]? = some (.inl (z, n, g))) : am_szs (h.set q (.inl (z', n, g'))) = am_szs h := am_szs_set (e := .inl (z', n, g')) (e0 := .inl (z, n, g)) rfl h q hq
theorem am_il_inv {K : am_F → Prop} {Kr : Prop → Option Value → Prop} {Kc : Nat → List Value → am_F → Prop} {scr : Option (Nat × (Nat → Int32))} {i : Int32} {v : Value} {nx : Nat} {L : am_L} {r : List Value} {h : am_H} (hk : am_K (am_il scr i v nx L r h) K Kr Kc) : (∃ (q n : Nat) (g : Nat → Int32), v = .ref q ∧ h[q]? = some (.inl (false, n, g)) ∧ vp_in i n ∧ K (nx, L, .int (g i.toNatClampNeg) :: r, h)) ∨ ∃ (x n : Nat) (g : Nat → Int32), v = .retAddr x ∧ scr = some (n, g) ∧ vp_in i n ∧ K (nx, L, .int (g i.toNatClampNeg) :: r, h) := by
  unfold am_il at hk
  split at hk
  · obtain ⟨n, g, hq, h1, h2⟩ := am_ar_inv hk
    exact Or.inl ⟨_, n, g, rfl, hq, h1, h2⟩
  · obtain ⟨x, n, g, e1, e2, h1, h2⟩ := am_sc_inv hk
    exact Or.inr ⟨x, n, g, e1, e2, h1, h2⟩
theorem am_hts {args : Array Value} {s : State} (hts : ∀ w ∈ am_ws, w.before args s = true) {i : Nat} {w : Jvm.Cond} (h : lw_tbl[i]? = some w) (hk : am_kw w = true) : w.before args s = true := hts w (am_in h hk)
theorem am_sws_pick {pc : Nat} {x : Int32} {d : Nat} : ∀ (os : List Int) (sw : List (Int32 × Nat)) (lo : Int), am_sws pc lo os sw = true →
    ((lo ≤ x.toInt ∧ x.toInt < lo + os.length) → ∃ off, os[(x.toInt - lo).toNat]? = some off ∧ (pc : Int) + off = (am_pick x sw d : Int)) ∧ (¬ (lo ≤ x.toInt ∧ x.toInt < lo + os.length) → am_pick x sw d = d)
  | [], [], lo, _ => ⟨fun h => by simp at h; omega, fun _ => rfl⟩
  | [], _ :: _, lo, h => by simp [am_sws] at h
  | _ :: _, [], lo, h => by simp [am_sws] at h
  | o :: os, (k, t) :: r, lo, h => by
    simp only [am_sws, Bool.and_eq_true, decide_eq_true_eq] at h
    obtain ⟨⟨h1, h2⟩, h3⟩ := h
    obtain ⟨i1, i2⟩ := am_sws_pick (pc := pc) (x := x) (d := d) os r (lo + 1) h3
    by_cases hx : x = k
    · subst hx
      refine ⟨fun _ => ⟨o, ?_, ?_⟩, fun hn => ?_⟩
      · rw [h1]; simp
      · simp only [am_pick, if_true]; exact h2
      · exfalso; apply hn; rw [h1]; simp; omega
    · have hne : x.toInt ≠ lo := fun z => hx (Int32.toInt_inj.mp (z.trans h1.symm))
      simp only [am_pick, if_neg hx, List.length_cons]
      refine ⟨fun hb => ?_, fun hn => i2 (fun hb => hn ?_)⟩
      · obtain ⟨off, e1, e2⟩ := i1 (by push_cast at hb ⊢; omega)
        refine ⟨off, ?_, e2⟩
        rw [show (x.toInt - lo).toNat = (x.toInt - (lo + 1)).toNat + 1 by omega, List.getElem?_cons_succ]
        exact e1
      · push_cast at hb ⊢; omega
theorem am_swl_pick {pc : Nat} {x : Int32} {d : Nat} {dd : Int} (hd : (pc : Int) + dd = (d : Int)) : ∀ (ps : List (Int × Int)) (sw : List (Int32 × Nat)), am_swl pc ps sw = true → (pc : Int) + Op.lookupswitch.offset ps dd x.toInt = (am_pick x sw d : Int)
  | [], [], _ => by simpa [Op.lookupswitch.offset, am_pick] using hd
  | [], _ :: _, h => by simp [am_swl] at h
  | _ :: _, [], h => by simp [am_swl] at h
  | (n, o) :: ps, (k, t) :: r, h => by
    simp only [am_swl, Bool.and_eq_true, decide_eq_true_eq] at h
    obtain ⟨⟨h1, h2⟩, h3⟩ := h
    have ih := am_swl_pick (x := x) hd ps r h3
    by_cases hx : x = k
    · subst hx
      simp only [am_pick, if_true]
      rw [← h2]
      simp [Op.lookupswitch.offset, h1]
    · have hne : ¬ n = x.toInt := fun z => hx (Int32.toInt_inj.mp (z.symm.trans h1.symm))
      simp only [am_pick, if_neg hx]
      rw [← ih]
      simp [Op.lookupswitch.offset, hne]
section
variable {p : Program} {l : Launch} {e : Env} {R : Room} {s : State} {m : MethodId} {args : Array Value} {below : List Frame} {meth : Method} {c : Code} {Q : State → Prop}
variable {b0 b : Nat} {cI cB : ClassId} {dC : Nat → ClassId} {dI : Nat → Nat → Nat} {cc : ByteArray} {own mnm : String} {nL n0 z0 : Nat} {ret : Option FieldType} {scr : Option (Nat × (Nat → Int32))} {mt : Nat → Option (MethodName × Nat × Nat)}
variable {H : Heap} {locs : List Loc} {ls : Array Slot} {cells slots pc : Nat} {L : am_L} {st : List Value} {h : am_H} {Kr : Prop → Option Value → Prop} {Kc : Nat → List Value → am_F → Prop}
theorem am_blank_map (a j : Nat) : vp_V (am_blank a) j = vp_V ((am_blank a).map (am_cv b0 b)) j := by
  have : (am_blank a).map (am_cv b0 b) = am_blank a := by
    unfold am_blank
    split <;> rfl
  rw [this]
theorem am_W_size (hz0 : s.heap.size = b0 + n0) (hcells : cells + n0 = h.length) (hP : va_P (dC, dI) vwCl (am_cw b0 b cI cB 0 h) H) (hS : va_S (fun q => b0 ≤ q) s.heap H locs) {g : JFrame} (k : H.size = b0 + h.length → W p l e R s m args below meth c H locs cells slots Q g) : W p l e R s m args below meth c H locs cells slots Q g := by
  intro T hT X
  refine k ?_ T hT X
  have h1 := X.heapSize
  rw [hT] at h1
  have h2 := hS.1
  cases hn : h.length with
  | zero => omega
  | succ n =>
    have hlt : n < h.length := by omega
    have h3 := (hP n _ (am_cw_get (List.getElem?_eq_getElem hlt))).lt
    dsimp only at h3
    omega
set_option maxHeartbeats 1000000 in
theorem am_s_iconst {E : am_I} (hc : am_ctx p s m args meth c b0 b cI cB dC dI cc own mnm nL n0 scr) (hroom : 1 ≤ R.frames ∧ 100 ≤ R.locals) (hrep : am_rep b0 b cI cB dC dI s nL H locs ls L h) (hcells : cells + n0 = h.length) (hslots : slots + z0 = am_szs h) {n : Int} {nx tg a b' w : Nat} {v : Int32} {lv : Int64} {sw : List (Int32 × Nat)} (hE : E = (.iconst n, nx, tg, a, b', w, v, lv, sw)) (hok : am_ok1 mt own mnm cc nL ret pc E = true)
    (hk : am_K (am_step scr E L st h) (am_cont p l e R s m args below meth c Q b0 b cI cB dC dI nL n0 z0) Kr Kc) : W p l e R s m args below meth c H locs cells slots Q (F0 m pc ls (st.map (am_cv b0 b))) := by
  subst hE
  obtain ⟨hd0, hok⟩ := am_and hok
  have hd0 := of_decide_eq_true hd0
  obtain ⟨hx, hb, hml, hown, hts, hK, hmn, hb0, hsc⟩ := hc
  obtain ⟨hP, hS, hL⟩ := hrep
  obtain ⟨hl, hv⟩ := am_and hok
  obtain ⟨e9, hd⟩ := am_dec hd0 hl
  subst e9
  have hk : am_cont p l e R s m args below meth c Q b0 b cI cB dC dI nL n0 z0 (_, L, .int v :: st, h) := hk
  exact lv_iconst hx hb hd (of_decide_eq_true hv) (hk.2 H locs ls cells slots ⟨hP, hS, hL⟩ hcells hslots)
set_option maxHeartbeats 1000000 in
theorem am_s_bipush {E : am_I} (hc : am_ctx p s m args meth c b0 b cI cB dC dI cc own mnm nL n0 scr) (hroom : 1 ≤ R.frames ∧ 100 ≤ R.locals) (hrep : am_rep b0 b cI cB dC dI s nL H locs ls L h) (hcells : cells + n0 = h.length) (hslots : slots + z0 = am_szs h) {n : Int} {nx tg a b' w : Nat} {v : Int32} {lv : Int64} {sw : List (Int32 × Nat)} (hE : E = (.bipush n, nx, tg, a, b', w, v, lv, sw)) (hok : am_ok1 mt own mnm cc nL ret pc E = true)
    (hk : am_K (am_step scr E L st h) (am_cont p l e R s m args below meth c Q b0 b cI cB dC dI nL n0 z0) Kr Kc) : W p l e R s m args below meth c H locs cells slots Q (F0 m pc ls (st.map (am_cv b0 b))) := by
  subst hE
  obtain ⟨hd0, hok⟩ := am_and hok
  have hd0 := of_decide_eq_true hd0
  obtain ⟨hx, hb, hml, hown, hts, hK, hmn, hb0, hsc⟩ := hc
  obtain ⟨hP, hS, hL⟩ := hrep
  obtain ⟨hl, hv⟩ := am_and hok
  obtain ⟨e9, hd⟩ := am_dec hd0 hl
  subst e9
  have hk : am_cont p l e R s m args below meth c Q b0 b cI cB dC dI nL n0 z0 (_, L, .int v :: st, h) := hk
  exact lv_bipush hx hb hd (of_decide_eq_true hv) (hk.2 H locs ls cells slots ⟨hP, hS, hL⟩ hcells hslots)
set_option maxHeartbeats 1000000 in
theorem am_s_sipush {E : am_I} (hc : am_ctx p s m args meth c b0 b cI cB dC dI cc own mnm nL n0 scr) (hroom : 1 ≤ R.frames ∧ 100 ≤ R.locals) (hrep : am_rep b0 b cI cB dC dI s nL H locs ls L h) (hcells : cells + n0 = h.length) (hslots : slots + z0 = am_szs h) {n : Int} {nx tg a b' w : Nat} {v : Int32} {lv : Int64} {sw : List (Int32 × Nat)} (hE : E = (.sipush n, nx, tg, a, b', w, v, lv, sw)) (hok : am_ok1 mt own mnm cc nL ret pc E = true)
    (hk : am_K (am_step scr E L st h) (am_cont p l e R s m args below meth c Q b0 b cI cB dC dI nL n0 z0) Kr Kc) : W p l e R s m args below meth c H locs cells slots Q (F0 m pc ls (st.map (am_cv b0 b))) := by
  subst hE
  obtain ⟨hd0, hok⟩ := am_and hok
  have hd0 := of_decide_eq_true hd0
  obtain ⟨hx, hb, hml, hown, hts, hK, hmn, hb0, hsc⟩ := hc
  obtain ⟨hP, hS, hL⟩ := hrep
  obtain ⟨hl, hv⟩ := am_and hok
  obtain ⟨e9, hd⟩ := am_dec hd0 hl
  subst e9
  have hk : am_cont p l e R s m args below meth c Q b0 b cI cB dC dI nL n0 z0 (_, L, .int v :: st, h) := hk
  exact lv_sipush hx hb hd (of_decide_eq_true hv) (hk.2 H locs ls cells slots ⟨hP, hS, hL⟩ hcells hslots)
set_option maxHeartbeats 1000000 in
theorem am_s_lconst {E : am_I} (hc : am_ctx p s m args meth c b0 b cI cB dC dI cc own mnm nL n0 scr) (hroom : 1 ≤ R.frames ∧ 100 ≤ R.locals) (hrep : am_rep b0 b cI cB dC dI s nL H locs ls L h) (hcells : cells + n0 = h.length) (hslots : slots + z0 = am_szs h) {n : Fin 2} {nx tg a b' w : Nat} {v : Int32} {lv : Int64} {sw : List (Int32 × Nat)} (hE : E = (.lconst n, nx, tg, a, b', w, v, lv, sw)) (hok : am_ok1 mt own mnm cc nL ret pc E = true)
    (hk : am_K (am_step scr E L st h) (am_cont p l e R s m args below meth c Q b0 b cI cB dC dI nL n0 z0) Kr Kc) : W p l e R s m args below meth c H locs cells slots Q (F0 m pc ls (st.map (am_cv b0 b))) := by
  subst hE
  obtain ⟨hd0, hok⟩ := am_and hok
  have hd0 := of_decide_eq_true hd0
  obtain ⟨hx, hb, hml, hown, hts, hK, hmn, hb0, hsc⟩ := hc
  obtain ⟨hP, hS, hL⟩ := hrep
  obtain ⟨hl, hv⟩ := am_and hok
  obtain ⟨e9, hd⟩ := am_dec hd0 hl
  subst e9
  have hk : am_cont p l e R s m args below meth c Q b0 b cI cB dC dI nL n0 z0 (_, L, .long lv :: st, h) := hk
  exact lv_lconst hx hb hd (of_decide_eq_true hv) (hk.2 H locs ls cells slots ⟨hP, hS, hL⟩ hcells hslots)
set_option maxHeartbeats 1000000 in
theorem am_s_ldc {E : am_I} (hc : am_ctx p s m args meth c b0 b cI cB dC dI cc own mnm nL n0 scr) (hroom : 1 ≤ R.frames ∧ 100 ≤ R.locals) (hrep : am_rep b0 b cI cB dC dI s nL H locs ls L h) (hcells : cells + n0 = h.length) (hslots : slots + z0 = am_szs h) {n : Nat} {nx tg a b' w : Nat} {v : Int32} {lv : Int64} {sw : List (Int32 × Nat)} (hE : E = (.ldc n, nx, tg, a, b', w, v, lv, sw)) (hok : am_ok1 mt own mnm cc nL ret pc E = true)
    (hk : am_K (am_step scr E L st h) (am_cont p l e R s m args below meth c Q b0 b cI cB dC dI nL n0 z0) Kr Kc) : W p l e R s m args below meth c H locs cells slots Q (F0 m pc ls (st.map (am_cv b0 b))) := by
  subst hE
  obtain ⟨hd0, hok⟩ := am_and hok
  have hd0 := of_decide_eq_true hd0
  obtain ⟨hx, hb, hml, hown, hts, hK, hmn, hb0, hsc⟩ := hc
  obtain ⟨hP, hS, hL⟩ := hrep
  obtain ⟨hl, hv⟩ := am_and hok
  obtain ⟨e9, hd⟩ := am_dec hd0 hl
  subst e9
  have hk : am_cont p l e R s m args below meth c Q b0 b cI cB dC dI nL n0 z0 (_, L, .int v :: st, h) := hk
  exact lv_ldc hx hb hown (am_hts hts (of_decide_eq_true hv) rfl) hd (hk.2 H locs ls cells slots ⟨hP, hS, hL⟩ hcells hslots)
set_option maxHeartbeats 1000000 in
theorem am_s_ldc_w {E : am_I} (hc : am_ctx p s m args meth c b0 b cI cB dC dI cc own mnm nL n0 scr) (hroom : 1 ≤ R.frames ∧ 100 ≤ R.locals) (hrep : am_rep b0 b cI cB dC dI s nL H locs ls L h) (hcells : cells + n0 = h.length) (hslots : slots + z0 = am_szs h) {n : Nat} {nx tg a b' w : Nat} {v : Int32} {lv : Int64} {sw : List (Int32 × Nat)} (hE : E = (.ldc_w n, nx, tg, a, b', w, v, lv, sw)) (hok : am_ok1 mt own mnm cc nL ret pc E = true)
    (hk : am_K (am_step scr E L st h) (am_cont p l e R s m args below meth c Q b0 b cI cB dC dI nL n0 z0) Kr Kc) : W p l e R s m args below meth c H locs cells slots Q (F0 m pc ls (st.map (am_cv b0 b))) := by
  subst hE
  obtain ⟨hd0, hok⟩ := am_and hok
  have hd0 := of_decide_eq_true hd0
  obtain ⟨hx, hb, hml, hown, hts, hK, hmn, hb0, hsc⟩ := hc
  obtain ⟨hP, hS, hL⟩ := hrep
  obtain ⟨hl, hv⟩ := am_and hok
  obtain ⟨e9, hd⟩ := am_dec hd0 hl
  subst e9
  have hk : am_cont p l e R s m args below meth c Q b0 b cI cB dC dI nL n0 z0 (_, L, .int v :: st, h) := hk
  exact lv_ldcw hx hb hown (am_hts hts (of_decide_eq_true hv) rfl) hd (hk.2 H locs ls cells slots ⟨hP, hS, hL⟩ hcells hslots)
set_option maxHeartbeats 1000000 in
theorem am_s_ldc2_w {E : am_I} (hc : am_ctx p s m args meth c b0 b cI cB dC dI cc own mnm nL n0 scr) (hroom : 1 ≤ R.frames ∧ 100 ≤ R.locals) (hrep : am_rep b0 b cI cB dC dI s nL H locs ls L h) (hcells : cells + n0 = h.length) (hslots : slots + z0 = am_szs h) {n : Nat} {nx tg a b' w : Nat} {v : Int32} {lv : Int64} {sw : List (Int32 × Nat)} (hE : E = (.ldc2_w n, nx, tg, a, b', w, v, lv, sw)) (hok : am_ok1 mt own mnm cc nL ret pc E = true)
    (hk : am_K (am_step scr E L st h) (am_cont p l e R s m args below meth c Q b0 b cI cB dC dI nL n0 z0) Kr Kc) : W p l e R s m args below meth c H locs cells slots Q (F0 m pc ls (st.map (am_cv b0 b))) := by
  subst hE
  obtain ⟨hd0, hok⟩ := am_and hok
  have hd0 := of_decide_eq_true hd0
  obtain ⟨hx, hb, hml, hown, hts, hK, hmn, hb0, hsc⟩ := hc
  obtain ⟨hP, hS, hL⟩ := hrep
  obtain ⟨hl, hv⟩ := am_and hok
  obtain ⟨e9, hd⟩ := am_dec hd0 hl
  subst e9
  have hk : am_cont p l e R s m args below meth c Q b0 b cI cB dC dI nL n0 z0 (_, L, .long lv :: st, h) := hk
  exact lv_ldc2 hx hb hown (am_hts hts (of_decide_eq_true hv) rfl) hd (hk.2 H locs ls cells slots ⟨hP, hS, hL⟩ hcells hslots)
set_option maxHeartbeats 1000000 in
theorem am_s_iload {E : am_I} (hc : am_ctx p s m args meth c b0 b cI cB dC dI cc own mnm nL n0 scr) (hroom : 1 ≤ R.frames ∧ 100 ≤ R.locals) (hrep : am_rep b0 b cI cB dC dI s nL H locs ls L h) (hcells : cells + n0 = h.length) (hslots : slots + z0 = am_szs h) {i : Nat} {nx tg a b' w : Nat} {v : Int32} {lv : Int64} {sw : List (Int32 × Nat)} (hE : E = (.iload i, nx, tg, a, b', w, v, lv, sw)) (hok : am_ok1 mt own mnm cc nL ret pc E = true)
    (hk : am_K (am_step scr E L st h) (am_cont p l e R s m args below meth c Q b0 b cI cB dC dI nL n0 z0) Kr Kc) : W p l e R s m args below meth c H locs cells slots Q (F0 m pc ls (st.map (am_cv b0 b))) := by
  subst hE
  obtain ⟨hd0, hok⟩ := am_and hok
  have hd0 := of_decide_eq_true hd0
  obtain ⟨hx, hb, hml, hown, hts, hK, hmn, hb0, hsc⟩ := hc
  obtain ⟨hP, hS, hL⟩ := hrep
  obtain ⟨hl, hv⟩ := am_and hok
  obtain ⟨e9, hd⟩ := am_dec hd0 hl
  subst e9
  cases am_beq hv
  obtain ⟨x, h1, hk⟩ := am_lo_inv hk
  obtain ⟨x, rfl, hk⟩ := am_vi_inv hk
  have hk : am_cont p l e R s m args below meth c Q b0 b cI cB dC dI nL n0 z0 (_, L, .int x :: st, h) := hk
  exact lv_iload hx hb hd (hL.2.2.2 _ _ h1) (hk.2 H locs ls cells slots ⟨hP, hS, hL⟩ hcells hslots)
set_option maxHeartbeats 1000000 in
theorem am_s_iload_n {E : am_I} (hc : am_ctx p s m args meth c b0 b cI cB dC dI cc own mnm nL n0 scr) (hroom : 1 ≤ R.frames ∧ 100 ≤ R.locals) (hrep : am_rep b0 b cI cB dC dI s nL H locs ls L h) (hcells : cells + n0 = h.length) (hslots : slots + z0 = am_szs h) {i : Fin 4} {nx tg a b' w : Nat} {v : Int32} {lv : Int64} {sw : List (Int32 × Nat)} (hE : E = (.iload_n i, nx, tg, a, b', w, v, lv, sw)) (hok : am_ok1 mt own mnm cc nL ret pc E = true)
    (hk : am_K (am_step scr E L st h) (am_cont p l e R s m args below meth c Q b0 b cI cB dC dI nL n0 z0) Kr Kc) : W p l e R s m args below meth c H locs cells slots Q (F0 m pc ls (st.map (am_cv b0 b))) := by
  subst hE
  obtain ⟨hd0, hok⟩ := am_and hok
  have hd0 := of_decide_eq_true hd0
  obtain ⟨hx, hb, hml, hown, hts, hK, hmn, hb0, hsc⟩ := hc
  obtain ⟨hP, hS, hL⟩ := hrep
  obtain ⟨hl, hv⟩ := am_and hok
  obtain ⟨e9, hd⟩ := am_dec hd0 hl
  subst e9
  obtain ⟨x, h1, hk⟩ := am_lo_inv hk
  obtain ⟨x, rfl, hk⟩ := am_vi_inv hk
  have hk : am_cont p l e R s m args below meth c Q b0 b cI cB dC dI nL n0 z0 (_, L, .int x :: st, h) := hk
  exact lv_iload_n hx hb hd (am_beq hv) (hL.2.2.2 _ _ h1) (hk.2 H locs ls cells slots ⟨hP, hS, hL⟩ hcells hslots)
set_option maxHeartbeats 1000000 in
theorem am_s_lload {E : am_I} (hc : am_ctx p s m args meth c b0 b cI cB dC dI cc own mnm nL n0 scr) (hroom : 1 ≤ R.frames ∧ 100 ≤ R.locals) (hrep : am_rep b0 b cI cB dC dI s nL H locs ls L h) (hcells : cells + n0 = h.length) (hslots : slots + z0 = am_szs h) {i : Nat} {nx tg a b' w : Nat} {v : Int32} {lv : Int64} {sw : List (Int32 × Nat)} (hE : E = (.lload i, nx, tg, a, b', w, v, lv, sw)) (hok : am_ok1 mt own mnm cc nL ret pc E = true)
    (hk : am_K (am_step scr E L st h) (am_cont p l e R s m args below meth c Q b0 b cI cB dC dI nL n0 z0) Kr Kc) : W p l e R s m args below meth c H locs cells slots Q (F0 m pc ls (st.map (am_cv b0 b))) := by
  subst hE
  obtain ⟨hd0, hok⟩ := am_and hok
  have hd0 := of_decide_eq_true hd0
  obtain ⟨hx, hb, hml, hown, hts, hK, hmn, hb0, hsc⟩ := hc
  obtain ⟨hP, hS, hL⟩ := hrep
  obtain ⟨hl, hv⟩ := am_and hok
  obtain ⟨e9, hd⟩ := am_dec hd0 hl
  subst e9
  cases am_beq hv
  obtain ⟨x, h1, hk⟩ := am_lo_inv hk
  obtain ⟨x, rfl, hk⟩ := am_vj_inv hk
  have hk : am_cont p l e R s m args below meth c Q b0 b cI cB dC dI nL n0 z0 (_, L, .long x :: st, h) := hk
  exact lv_lload hx hb hd (hL.2.2.2 _ _ h1) (hk.2 H locs ls cells slots ⟨hP, hS, hL⟩ hcells hslots)
set_option maxHeartbeats 1000000 in
theorem am_s_lload_n {E : am_I} (hc : am_ctx p s m args meth c b0 b cI cB dC dI cc own mnm nL n0 scr) (hroom : 1 ≤ R.frames ∧ 100 ≤ R.locals) (hrep : am_rep b0 b cI cB dC dI s nL H locs ls L h) (hcells : cells + n0 = h.length) (hslots : slots + z0 = am_szs h) {i : Fin 4} {nx tg a b' w : Nat} {v : Int32} {lv : Int64} {sw : List (Int32 × Nat)} (hE : E = (.lload_n i, nx, tg, a, b', w, v, lv, sw)) (hok : am_ok1 mt own mnm cc nL ret pc E = true)
    (hk : am_K (am_step scr E L st h) (am_cont p l e R s m args below meth c Q b0 b cI cB dC dI nL n0 z0) Kr Kc) : W p l e R s m args below meth c H locs cells slots Q (F0 m pc ls (st.map (am_cv b0 b))) := by
  subst hE
  obtain ⟨hd0, hok⟩ := am_and hok
  have hd0 := of_decide_eq_true hd0
  obtain ⟨hx, hb, hml, hown, hts, hK, hmn, hb0, hsc⟩ := hc
  obtain ⟨hP, hS, hL⟩ := hrep
  obtain ⟨hl, hv⟩ := am_and hok
  obtain ⟨e9, hd⟩ := am_dec hd0 hl
  subst e9
  obtain ⟨x, h1, hk⟩ := am_lo_inv hk
  obtain ⟨x, rfl, hk⟩ := am_vj_inv hk
  have hk : am_cont p l e R s m args below meth c Q b0 b cI cB dC dI nL n0 z0 (_, L, .long x :: st, h) := hk
  exact lv_lload_n hx hb hd (am_beq hv) (hL.2.2.2 _ _ h1) (hk.2 H locs ls cells slots ⟨hP, hS, hL⟩ hcells hslots)
set_option maxHeartbeats 1000000 in
theorem am_s_aload {E : am_I} (hc : am_ctx p s m args meth c b0 b cI cB dC dI cc own mnm nL n0 scr) (hroom : 1 ≤ R.frames ∧ 100 ≤ R.locals) (hrep : am_rep b0 b cI cB dC dI s nL H locs ls L h) (hcells : cells + n0 = h.length) (hslots : slots + z0 = am_szs h) {i : Nat} {nx tg a b' w : Nat} {v : Int32} {lv : Int64} {sw : List (Int32 × Nat)} (hE : E = (.aload i, nx, tg, a, b', w, v, lv, sw)) (hok : am_ok1 mt own mnm cc nL ret pc E = true)
    (hk : am_K (am_step scr E L st h) (am_cont p l e R s m args below meth c Q b0 b cI cB dC dI nL n0 z0) Kr Kc) : W p l e R s m args below meth c H locs cells slots Q (F0 m pc ls (st.map (am_cv b0 b))) := by
  subst hE
  obtain ⟨hd0, hok⟩ := am_and hok
  have hd0 := of_decide_eq_true hd0
  obtain ⟨hx, hb, hml, hown, hts, hK, hmn, hb0, hsc⟩ := hc
  obtain ⟨hP, hS, hL⟩ := hrep
  obtain ⟨hl, hv⟩ := am_and hok
  obtain ⟨e9, hd⟩ := am_dec hd0 hl
  subst e9
  cases am_beq hv
  obtain ⟨x, h1, hk⟩ := am_lo_inv hk
  obtain ⟨hr, hk⟩ := am_va_inv hk
  rcases hr with ⟨q, rfl⟩ | ⟨q, rfl⟩
  · have hk : am_cont p l e R s m args below meth c Q b0 b cI cB dC dI nL n0 z0 (_, L, .ref q :: st, h) := hk
    exact lv_aload hx hb hd (hL.2.2.2 _ _ h1) (hk.2 H locs ls cells slots ⟨hP, hS, hL⟩ hcells hslots)
  · have hk : am_cont p l e R s m args below meth c Q b0 b cI cB dC dI nL n0 z0 (_, L, .retAddr q :: st, h) := hk
    exact lv_aload hx hb hd (hL.2.2.2 _ _ h1) (hk.2 H locs ls cells slots ⟨hP, hS, hL⟩ hcells hslots)
set_option maxHeartbeats 1000000 in
theorem am_s_aload_n {E : am_I} (hc : am_ctx p s m args meth c b0 b cI cB dC dI cc own mnm nL n0 scr) (hroom : 1 ≤ R.frames ∧ 100 ≤ R.locals) (hrep : am_rep b0 b cI cB dC dI s nL H locs ls L h) (hcells : cells + n0 = h.length) (hslots : slots + z0 = am_szs h) {i : Fin 4} {nx tg a b' w : Nat} {v : Int32} {lv : Int64} {sw : List (Int32 × Nat)} (hE : E = (.aload_n i, nx, tg, a, b', w, v, lv, sw)) (hok : am_ok1 mt own mnm cc nL ret pc E = true)
    (hk : am_K (am_step scr E L st h) (am_cont p l e R s m args below meth c Q b0 b cI cB dC dI nL n0 z0) Kr Kc) : W p l e R s m args below meth c H locs cells slots Q (F0 m pc ls (st.map (am_cv b0 b))) := by
  subst hE
  obtain ⟨hd0, hok⟩ := am_and hok
  have hd0 := of_decide_eq_true hd0
  obtain ⟨hx, hb, hml, hown, hts, hK, hmn, hb0, hsc⟩ := hc
  obtain ⟨hP, hS, hL⟩ := hrep
  obtain ⟨hl, hv⟩ := am_and hok
  obtain ⟨e9, hd⟩ := am_dec hd0 hl
  subst e9
  skip
  obtain ⟨x, h1, hk⟩ := am_lo_inv hk
  obtain ⟨hr, hk⟩ := am_va_inv hk
  rcases hr with ⟨q, rfl⟩ | ⟨q, rfl⟩
  · have hk : am_cont p l e R s m args below meth c Q b0 b cI cB dC dI nL n0 z0 (_, L, .ref q :: st, h) := hk
    exact lv_aload_n hx hb hd (am_beq hv) (hL.2.2.2 _ _ h1) (hk.2 H locs ls cells slots ⟨hP, hS, hL⟩ hcells hslots)
  · have hk : am_cont p l e R s m args below meth c Q b0 b cI cB dC dI nL n0 z0 (_, L, .retAddr q :: st, h) := hk
    exact lv_aload_n hx hb hd (am_beq hv) (hL.2.2.2 _ _ h1) (hk.2 H locs ls cells slots ⟨hP, hS, hL⟩ hcells hslots)
set_option maxHeartbeats 1000000 in
theorem am_s_istore {E : am_I} (hc : am_ctx p s m args meth c b0 b cI cB dC dI cc own mnm nL n0 scr) (hroom : 1 ≤ R.frames ∧ 100 ≤ R.locals) (hrep : am_rep b0 b cI cB dC dI s nL H locs ls L h) (hcells : cells + n0 = h.length) (hslots : slots + z0 = am_szs h) {i : Nat} {nx tg a b' w : Nat} {v : Int32} {lv : Int64} {sw : List (Int32 × Nat)} (hE : E = (.istore i, nx, tg, a, b', w, v, lv, sw)) (hok : am_ok1 mt own mnm cc nL ret pc E = true)
    (hk : am_K (am_step scr E L st h) (am_cont p l e R s m args below meth c Q b0 b cI cB dC dI nL n0 z0) Kr Kc) : W p l e R s m args below meth c H locs cells slots Q (F0 m pc ls (st.map (am_cv b0 b))) := by
  subst hE
  obtain ⟨hd0, hok⟩ := am_and hok
  have hd0 := of_decide_eq_true hd0
  obtain ⟨hx, hb, hml, hown, hts, hK, hmn, hb0, hsc⟩ := hc
  obtain ⟨hP, hS, hL⟩ := hrep
  obtain ⟨hl, hv⟩ := am_and hok
  obtain ⟨e9, hd⟩ := am_dec hd0 hl
  subst e9
  cases am_beq hv
  obtain ⟨x, r, rfl, hk⟩ := am_i1_inv hk
  obtain ⟨L', hp, hk⟩ := am_put_inv hk
  have hk : am_cont p l e R s m args below meth c Q b0 b cI cB dC dI nL n0 z0 (_, L', r, h) := hk
  exact lv_istore hx hb hd (am_lh_has hL) (by rw [← hL.2.2.1]; exact am_st1_lt hp) rfl (fun ls' hls => hk.2 H locs ls' cells slots ⟨hP, hS, am_lh_st1 hL hp hls⟩ hcells hslots)
set_option maxHeartbeats 1000000 in
theorem am_s_istore_n {E : am_I} (hc : am_ctx p s m args meth c b0 b cI cB dC dI cc own mnm nL n0 scr) (hroom : 1 ≤ R.frames ∧ 100 ≤ R.locals) (hrep : am_rep b0 b cI cB dC dI s nL H locs ls L h) (hcells : cells + n0 = h.length) (hslots : slots + z0 = am_szs h) {i : Fin 4} {nx tg a b' w : Nat} {v : Int32} {lv : Int64} {sw : List (Int32 × Nat)} (hE : E = (.istore_n i, nx, tg, a, b', w, v, lv, sw)) (hok : am_ok1 mt own mnm cc nL ret pc E = true)
    (hk : am_K (am_step scr E L st h) (am_cont p l e R s m args below meth c Q b0 b cI cB dC dI nL n0 z0) Kr Kc) : W p l e R s m args below meth c H locs cells slots Q (F0 m pc ls (st.map (am_cv b0 b))) := by
  subst hE
  obtain ⟨hd0, hok⟩ := am_and hok
  have hd0 := of_decide_eq_true hd0
  obtain ⟨hx, hb, hml, hown, hts, hK, hmn, hb0, hsc⟩ := hc
  obtain ⟨hP, hS, hL⟩ := hrep
  obtain ⟨hl, hv⟩ := am_and hok
  obtain ⟨e9, hd⟩ := am_dec hd0 hl
  subst e9
  obtain ⟨x, r, rfl, hk⟩ := am_i1_inv hk
  obtain ⟨L', hp, hk⟩ := am_put_inv hk
  have hk : am_cont p l e R s m args below meth c Q b0 b cI cB dC dI nL n0 z0 (_, L', r, h) := hk
  exact lv_istore_n hx hb hd (am_beq hv) (am_lh_has hL) (by rw [← hL.2.2.1]; exact am_st1_lt hp) rfl (fun ls' hls => hk.2 H locs ls' cells slots ⟨hP, hS, am_lh_st1 hL hp hls⟩ hcells hslots)
set_option maxHeartbeats 1000000 in
theorem am_s_astore {E : am_I} (hc : am_ctx p s m args meth c b0 b cI cB dC dI cc own mnm nL n0 scr) (hroom : 1 ≤ R.frames ∧ 100 ≤ R.locals) (hrep : am_rep b0 b cI cB dC dI s nL H locs ls L h) (hcells : cells + n0 = h.length) (hslots : slots + z0 = am_szs h) {i : Nat} {nx tg a b' w : Nat} {v : Int32} {lv : Int64} {sw : List (Int32 × Nat)} (hE : E = (.astore i, nx, tg, a, b', w, v, lv, sw)) (hok : am_ok1 mt own mnm cc nL ret pc E = true)
    (hk : am_K (am_step scr E L st h) (am_cont p l e R s m args below meth c Q b0 b cI cB dC dI nL n0 z0) Kr Kc) : W p l e R s m args below meth c H locs cells slots Q (F0 m pc ls (st.map (am_cv b0 b))) := by
  subst hE
  obtain ⟨hd0, hok⟩ := am_and hok
  have hd0 := of_decide_eq_true hd0
  obtain ⟨hx, hb, hml, hown, hts, hK, hmn, hb0, hsc⟩ := hc
  obtain ⟨hP, hS, hL⟩ := hrep
  obtain ⟨hl, hv⟩ := am_and hok
  obtain ⟨e9, hd⟩ := am_dec hd0 hl
  subst e9
  cases am_beq hv
  obtain ⟨x, r, rfl, hk⟩ := am_r1_inv hk
  obtain ⟨L', hp, hk⟩ := am_put_inv hk
  have hk : am_cont p l e R s m args below meth c Q b0 b cI cB dC dI nL n0 z0 (_, L', r, h) := hk
  exact lv_astore hx hb hd (am_lh_has hL) (by rw [← hL.2.2.1]; exact am_st1_lt hp) rfl (fun ls' hls => hk.2 H locs ls' cells slots ⟨hP, hS, am_lh_st1 hL hp hls⟩ hcells hslots)
set_option maxHeartbeats 1000000 in
theorem am_s_astore_n {E : am_I} (hc : am_ctx p s m args meth c b0 b cI cB dC dI cc own mnm nL n0 scr) (hroom : 1 ≤ R.frames ∧ 100 ≤ R.locals) (hrep : am_rep b0 b cI cB dC dI s nL H locs ls L h) (hcells : cells + n0 = h.length) (hslots : slots + z0 = am_szs h) {i : Fin 4} {nx tg a b' w : Nat} {v : Int32} {lv : Int64} {sw : List (Int32 × Nat)} (hE : E = (.astore_n i, nx, tg, a, b', w, v, lv, sw)) (hok : am_ok1 mt own mnm cc nL ret pc E = true)
    (hk : am_K (am_step scr E L st h) (am_cont p l e R s m args below meth c Q b0 b cI cB dC dI nL n0 z0) Kr Kc) : W p l e R s m args below meth c H locs cells slots Q (F0 m pc ls (st.map (am_cv b0 b))) := by
  subst hE
  obtain ⟨hd0, hok⟩ := am_and hok
  have hd0 := of_decide_eq_true hd0
  obtain ⟨hx, hb, hml, hown, hts, hK, hmn, hb0, hsc⟩ := hc
  obtain ⟨hP, hS, hL⟩ := hrep
  obtain ⟨hl, hv⟩ := am_and hok
  obtain ⟨e9, hd⟩ := am_dec hd0 hl
  subst e9
  obtain ⟨x, r, rfl, hk⟩ := am_r1_inv hk
  obtain ⟨L', hp, hk⟩ := am_put_inv hk
  have hk : am_cont p l e R s m args below meth c Q b0 b cI cB dC dI nL n0 z0 (_, L', r, h) := hk
  exact lv_astore_n hx hb hd (am_beq hv) (am_lh_has hL) (by rw [← hL.2.2.1]; exact am_st1_lt hp) rfl (fun ls' hls => hk.2 H locs ls' cells slots ⟨hP, hS, am_lh_st1 hL hp hls⟩ hcells hslots)
set_option maxHeartbeats 1000000 in
theorem am_s_lstore {E : am_I} (hc : am_ctx p s m args meth c b0 b cI cB dC dI cc own mnm nL n0 scr) (hroom : 1 ≤ R.frames ∧ 100 ≤ R.locals) (hrep : am_rep b0 b cI cB dC dI s nL H locs ls L h) (hcells : cells + n0 = h.length) (hslots : slots + z0 = am_szs h) {i : Nat} {nx tg a b' w : Nat} {v : Int32} {lv : Int64} {sw : List (Int32 × Nat)} (hE : E = (.lstore i, nx, tg, a, b', w, v, lv, sw)) (hok : am_ok1 mt own mnm cc nL ret pc E = true)
    (hk : am_K (am_step scr E L st h) (am_cont p l e R s m args below meth c Q b0 b cI cB dC dI nL n0 z0) Kr Kc) : W p l e R s m args below meth c H locs cells slots Q (F0 m pc ls (st.map (am_cv b0 b))) := by
  subst hE
  obtain ⟨hd0, hok⟩ := am_and hok
  have hd0 := of_decide_eq_true hd0
  obtain ⟨hx, hb, hml, hown, hts, hK, hmn, hb0, hsc⟩ := hc
  obtain ⟨hP, hS, hL⟩ := hrep
  obtain ⟨hl, hv⟩ := am_and hok
  obtain ⟨e9, hd⟩ := am_dec hd0 hl
  subst e9
  cases am_beq hv
  obtain ⟨x, r, rfl, hk⟩ := am_j1_inv hk
  obtain ⟨L', hp, hk⟩ := am_put_inv hk
  have hk : am_cont p l e R s m args below meth c Q b0 b cI cB dC dI nL n0 z0 (_, L', r, h) := hk
  exact lv_lstore hx hb hd (am_lh_has hL) (by rw [← hL.2.2.1]; exact am_st2_lt hp) rfl (fun ls' hls => hk.2 H locs ls' cells slots ⟨hP, hS, am_lh_st2 hL hp hls⟩ hcells hslots)
set_option maxHeartbeats 1000000 in
theorem am_s_lstore_n {E : am_I} (hc : am_ctx p s m args meth c b0 b cI cB dC dI cc own mnm nL n0 scr) (hroom : 1 ≤ R.frames ∧ 100 ≤ R.locals) (hrep : am_rep b0 b cI cB dC dI s nL H locs ls L h) (hcells : cells + n0 = h.length) (hslots : slots + z0 = am_szs h) {i : Fin 4} {nx tg a b' w : Nat} {v : Int32} {lv : Int64} {sw : List (Int32 × Nat)} (hE : E = (.lstore_n i, nx, tg, a, b', w, v, lv, sw)) (hok : am_ok1 mt own mnm cc nL ret pc E = true)
    (hk : am_K (am_step scr E L st h) (am_cont p l e R s m args below meth c Q b0 b cI cB dC dI nL n0 z0) Kr Kc) : W p l e R s m args below meth c H locs cells slots Q (F0 m pc ls (st.map (am_cv b0 b))) := by
  subst hE
  obtain ⟨hd0, hok⟩ := am_and hok
  have hd0 := of_decide_eq_true hd0
  obtain ⟨hx, hb, hml, hown, hts, hK, hmn, hb0, hsc⟩ := hc
  obtain ⟨hP, hS, hL⟩ := hrep
  obtain ⟨hl, hv⟩ := am_and hok
  obtain ⟨e9, hd⟩ := am_dec hd0 hl
  subst e9
  obtain ⟨x, r, rfl, hk⟩ := am_j1_inv hk
  obtain ⟨L', hp, hk⟩ := am_put_inv hk
  have hk : am_cont p l e R s m args below meth c Q b0 b cI cB dC dI nL n0 z0 (_, L', r, h) := hk
  exact lv_lstore_n hx hb hd (am_beq hv) (am_lh_has hL) (by rw [← hL.2.2.1]; exact am_st2_lt hp) rfl (fun ls' hls => hk.2 H locs ls' cells slots ⟨hP, hS, am_lh_st2 hL hp hls⟩ hcells hslots)
set_option maxHeartbeats 1000000 in
theorem am_s_iinc {E : am_I} (hc : am_ctx p s m args meth c b0 b cI cB dC dI cc own mnm nL n0 scr) (hroom : 1 ≤ R.frames ∧ 100 ≤ R.locals) (hrep : am_rep b0 b cI cB dC dI s nL H locs ls L h) (hcells : cells + n0 = h.length) (hslots : slots + z0 = am_szs h) {i : Nat} {n : Int} {nx tg a b' w : Nat} {v : Int32} {lv : Int64} {sw : List (Int32 × Nat)} (hE : E = (.iinc i n, nx, tg, a, b', w, v, lv, sw)) (hok : am_ok1 mt own mnm cc nL ret pc E = true)
    (hk : am_K (am_step scr E L st h) (am_cont p l e R s m args below meth c Q b0 b cI cB dC dI nL n0 z0) Kr Kc) : W p l e R s m args below meth c H locs cells slots Q (F0 m pc ls (st.map (am_cv b0 b))) := by
  subst hE
  obtain ⟨hd0, hok⟩ := am_and hok
  have hd0 := of_decide_eq_true hd0
  obtain ⟨hx, hb, hml, hown, hts, hK, hmn, hb0, hsc⟩ := hc
  obtain ⟨hP, hS, hL⟩ := hrep
  obtain ⟨hl, hv⟩ := am_and hok
  obtain ⟨hl, hi⟩ := am_and hl
  obtain ⟨e9, hd⟩ := am_dec hd0 hl
  subst e9
  cases am_beq hi
  have hv := of_decide_eq_true hv
  obtain ⟨x, h1, hk⟩ := am_lo_inv hk
  obtain ⟨x, rfl, hk⟩ := am_vi_inv hk
  obtain ⟨L', hp, hk⟩ := am_put_inv hk
  have hk : am_cont p l e R s m args below meth c Q b0 b cI cB dC dI nL n0 z0 (_, L', st, h) := hk
  have hin := am_ll_of (b0 := b0) (b := b) L 0 _ _ h1
  rw [Nat.zero_add] at hin
  obtain ⟨k, hk1⟩ := List.getElem?_of_mem hin
  exact lv_iinc (v := x + v) hx hb hd (am_lh_has hL) hk1 (by rw [hv]) (by rw [← hL.2.2.1]; exact am_st1_lt hp) rfl (fun ls' hls => hk.2 H locs ls' cells slots ⟨hP, hS, am_lh_st1 hL hp hls⟩ hcells hslots)
set_option maxHeartbeats 1000000 in
theorem am_s_iadd {E : am_I} (hc : am_ctx p s m args meth c b0 b cI cB dC dI cc own mnm nL n0 scr) (hroom : 1 ≤ R.frames ∧ 100 ≤ R.locals) (hrep : am_rep b0 b cI cB dC dI s nL H locs ls L h) (hcells : cells + n0 = h.length) (hslots : slots + z0 = am_szs h)  {nx tg a b' w : Nat} {v : Int32} {lv : Int64} {sw : List (Int32 × Nat)} (hE : E = (.iadd, nx, tg, a, b', w, v, lv, sw)) (hok : am_ok1 mt own mnm cc nL ret pc E = true)
    (hk : am_K (am_step scr E L st h) (am_cont p l e R s m args below meth c Q b0 b cI cB dC dI nL n0 z0) Kr Kc) : W p l e R s m args below meth c H locs cells slots Q (F0 m pc ls (st.map (am_cv b0 b))) := by
  subst hE
  obtain ⟨hd0, hok⟩ := am_and hok
  have hd0 := of_decide_eq_true hd0
  obtain ⟨hx, hb, hml, hown, hts, hK, hmn, hb0, hsc⟩ := hc
  obtain ⟨hP, hS, hL⟩ := hrep
  obtain ⟨e9, hd⟩ := am_dec hd0 hok
  subst e9
  obtain ⟨x, y, r, rfl, hk⟩ := am_i2_inv hk
  have hk : am_cont p l e R s m args below meth c Q b0 b cI cB dC dI nL n0 z0 (_, L, .int (x + y) :: r, h) := hk
  exact lv_iadd hx hb hd (hk.2 H locs ls cells slots ⟨hP, hS, hL⟩ hcells hslots)
set_option maxHeartbeats 1000000 in
theorem am_s_isub {E : am_I} (hc : am_ctx p s m args meth c b0 b cI cB dC dI cc own mnm nL n0 scr) (hroom : 1 ≤ R.frames ∧ 100 ≤ R.locals) (hrep : am_rep b0 b cI cB dC dI s nL H locs ls L h) (hcells : cells + n0 = h.length) (hslots : slots + z0 = am_szs h)  {nx tg a b' w : Nat} {v : Int32} {lv : Int64} {sw : List (Int32 × Nat)} (hE : E = (.isub, nx, tg, a, b', w, v, lv, sw)) (hok : am_ok1 mt own mnm cc nL ret pc E = true)
    (hk : am_K (am_step scr E L st h) (am_cont p l e R s m args below meth c Q b0 b cI cB dC dI nL n0 z0) Kr Kc) : W p l e R s m args below meth c H locs cells slots Q (F0 m pc ls (st.map (am_cv b0 b))) := by
  subst hE
  obtain ⟨hd0, hok⟩ := am_and hok
  have hd0 := of_decide_eq_true hd0
  obtain ⟨hx, hb, hml, hown, hts, hK, hmn, hb0, hsc⟩ := hc
  obtain ⟨hP, hS, hL⟩ := hrep
  obtain ⟨e9, hd⟩ := am_dec hd0 hok
  subst e9
  obtain ⟨x, y, r, rfl, hk⟩ := am_i2_inv hk
  have hk : am_cont p l e R s m args below meth c Q b0 b cI cB dC dI nL n0 z0 (_, L, .int (x - y) :: r, h) := hk
  exact lv_isub hx hb hd (hk.2 H locs ls cells slots ⟨hP, hS, hL⟩ hcells hslots)
set_option maxHeartbeats 1000000 in
theorem am_s_imul {E : am_I} (hc : am_ctx p s m args meth c b0 b cI cB dC dI cc own mnm nL n0 scr) (hroom : 1 ≤ R.frames ∧ 100 ≤ R.locals) (hrep : am_rep b0 b cI cB dC dI s nL H locs ls L h) (hcells : cells + n0 = h.length) (hslots : slots + z0 = am_szs h)  {nx tg a b' w : Nat} {v : Int32} {lv : Int64} {sw : List (Int32 × Nat)} (hE : E = (.imul, nx, tg, a, b', w, v, lv, sw)) (hok : am_ok1 mt own mnm cc nL ret pc E = true)
    (hk : am_K (am_step scr E L st h) (am_cont p l e R s m args below meth c Q b0 b cI cB dC dI nL n0 z0) Kr Kc) : W p l e R s m args below meth c H locs cells slots Q (F0 m pc ls (st.map (am_cv b0 b))) := by
  subst hE
  obtain ⟨hd0, hok⟩ := am_and hok
  have hd0 := of_decide_eq_true hd0
  obtain ⟨hx, hb, hml, hown, hts, hK, hmn, hb0, hsc⟩ := hc
  obtain ⟨hP, hS, hL⟩ := hrep
  obtain ⟨e9, hd⟩ := am_dec hd0 hok
  subst e9
  obtain ⟨x, y, r, rfl, hk⟩ := am_i2_inv hk
  have hk : am_cont p l e R s m args below meth c Q b0 b cI cB dC dI nL n0 z0 (_, L, .int (x * y) :: r, h) := hk
  exact lv_imul hx hb hd (hk.2 H locs ls cells slots ⟨hP, hS, hL⟩ hcells hslots)
set_option maxHeartbeats 1000000 in
theorem am_s_iand {E : am_I} (hc : am_ctx p s m args meth c b0 b cI cB dC dI cc own mnm nL n0 scr) (hroom : 1 ≤ R.frames ∧ 100 ≤ R.locals) (hrep : am_rep b0 b cI cB dC dI s nL H locs ls L h) (hcells : cells + n0 = h.length) (hslots : slots + z0 = am_szs h)  {nx tg a b' w : Nat} {v : Int32} {lv : Int64} {sw : List (Int32 × Nat)} (hE : E = (.iand, nx, tg, a, b', w, v, lv, sw)) (hok : am_ok1 mt own mnm cc nL ret pc E = true)
    (hk : am_K (am_step scr E L st h) (am_cont p l e R s m args below meth c Q b0 b cI cB dC dI nL n0 z0) Kr Kc) : W p l e R s m args below meth c H locs cells slots Q (F0 m pc ls (st.map (am_cv b0 b))) := by
  subst hE
  obtain ⟨hd0, hok⟩ := am_and hok
  have hd0 := of_decide_eq_true hd0
  obtain ⟨hx, hb, hml, hown, hts, hK, hmn, hb0, hsc⟩ := hc
  obtain ⟨hP, hS, hL⟩ := hrep
  obtain ⟨e9, hd⟩ := am_dec hd0 hok
  subst e9
  obtain ⟨x, y, r, rfl, hk⟩ := am_i2_inv hk
  have hk : am_cont p l e R s m args below meth c Q b0 b cI cB dC dI nL n0 z0 (_, L, .int (x &&& y) :: r, h) := hk
  exact lv_iand hx hb hd (hk.2 H locs ls cells slots ⟨hP, hS, hL⟩ hcells hslots)
set_option maxHeartbeats 1000000 in
theorem am_s_ior {E : am_I} (hc : am_ctx p s m args meth c b0 b cI cB dC dI cc own mnm nL n0 scr) (hroom : 1 ≤ R.frames ∧ 100 ≤ R.locals) (hrep : am_rep b0 b cI cB dC dI s nL H locs ls L h) (hcells : cells + n0 = h.length) (hslots : slots + z0 = am_szs h)  {nx tg a b' w : Nat} {v : Int32} {lv : Int64} {sw : List (Int32 × Nat)} (hE : E = (.ior, nx, tg, a, b', w, v, lv, sw)) (hok : am_ok1 mt own mnm cc nL ret pc E = true)
    (hk : am_K (am_step scr E L st h) (am_cont p l e R s m args below meth c Q b0 b cI cB dC dI nL n0 z0) Kr Kc) : W p l e R s m args below meth c H locs cells slots Q (F0 m pc ls (st.map (am_cv b0 b))) := by
  subst hE
  obtain ⟨hd0, hok⟩ := am_and hok
  have hd0 := of_decide_eq_true hd0
  obtain ⟨hx, hb, hml, hown, hts, hK, hmn, hb0, hsc⟩ := hc
  obtain ⟨hP, hS, hL⟩ := hrep
  obtain ⟨e9, hd⟩ := am_dec hd0 hok
  subst e9
  obtain ⟨x, y, r, rfl, hk⟩ := am_i2_inv hk
  have hk : am_cont p l e R s m args below meth c Q b0 b cI cB dC dI nL n0 z0 (_, L, .int (x ||| y) :: r, h) := hk
  exact lv_ior hx hb hd (hk.2 H locs ls cells slots ⟨hP, hS, hL⟩ hcells hslots)
set_option maxHeartbeats 1000000 in
theorem am_s_ixor {E : am_I} (hc : am_ctx p s m args meth c b0 b cI cB dC dI cc own mnm nL n0 scr) (hroom : 1 ≤ R.frames ∧ 100 ≤ R.locals) (hrep : am_rep b0 b cI cB dC dI s nL H locs ls L h) (hcells : cells + n0 = h.length) (hslots : slots + z0 = am_szs h)  {nx tg a b' w : Nat} {v : Int32} {lv : Int64} {sw : List (Int32 × Nat)} (hE : E = (.ixor, nx, tg, a, b', w, v, lv, sw)) (hok : am_ok1 mt own mnm cc nL ret pc E = true)
    (hk : am_K (am_step scr E L st h) (am_cont p l e R s m args below meth c Q b0 b cI cB dC dI nL n0 z0) Kr Kc) : W p l e R s m args below meth c H locs cells slots Q (F0 m pc ls (st.map (am_cv b0 b))) := by
  subst hE
  obtain ⟨hd0, hok⟩ := am_and hok
  have hd0 := of_decide_eq_true hd0
  obtain ⟨hx, hb, hml, hown, hts, hK, hmn, hb0, hsc⟩ := hc
  obtain ⟨hP, hS, hL⟩ := hrep
  obtain ⟨e9, hd⟩ := am_dec hd0 hok
  subst e9
  obtain ⟨x, y, r, rfl, hk⟩ := am_i2_inv hk
  have hk : am_cont p l e R s m args below meth c Q b0 b cI cB dC dI nL n0 z0 (_, L, .int (x ^^^ y) :: r, h) := hk
  exact lv_ixor hx hb hd (hk.2 H locs ls cells slots ⟨hP, hS, hL⟩ hcells hslots)
set_option maxHeartbeats 1000000 in
theorem am_s_ishl {E : am_I} (hc : am_ctx p s m args meth c b0 b cI cB dC dI cc own mnm nL n0 scr) (hroom : 1 ≤ R.frames ∧ 100 ≤ R.locals) (hrep : am_rep b0 b cI cB dC dI s nL H locs ls L h) (hcells : cells + n0 = h.length) (hslots : slots + z0 = am_szs h)  {nx tg a b' w : Nat} {v : Int32} {lv : Int64} {sw : List (Int32 × Nat)} (hE : E = (.ishl, nx, tg, a, b', w, v, lv, sw)) (hok : am_ok1 mt own mnm cc nL ret pc E = true)
    (hk : am_K (am_step scr E L st h) (am_cont p l e R s m args below meth c Q b0 b cI cB dC dI nL n0 z0) Kr Kc) : W p l e R s m args below meth c H locs cells slots Q (F0 m pc ls (st.map (am_cv b0 b))) := by
  subst hE
  obtain ⟨hd0, hok⟩ := am_and hok
  have hd0 := of_decide_eq_true hd0
  obtain ⟨hx, hb, hml, hown, hts, hK, hmn, hb0, hsc⟩ := hc
  obtain ⟨hP, hS, hL⟩ := hrep
  obtain ⟨e9, hd⟩ := am_dec hd0 hok
  subst e9
  obtain ⟨x, y, r, rfl, hk⟩ := am_i2_inv hk
  have hk : am_cont p l e R s m args below meth c Q b0 b cI cB dC dI nL n0 z0 (_, L, .int (x <<< (y &&& 31)) :: r, h) := hk
  exact lv_ishl hx hb hd (hk.2 H locs ls cells slots ⟨hP, hS, hL⟩ hcells hslots)
set_option maxHeartbeats 1000000 in
theorem am_s_ishr {E : am_I} (hc : am_ctx p s m args meth c b0 b cI cB dC dI cc own mnm nL n0 scr) (hroom : 1 ≤ R.frames ∧ 100 ≤ R.locals) (hrep : am_rep b0 b cI cB dC dI s nL H locs ls L h) (hcells : cells + n0 = h.length) (hslots : slots + z0 = am_szs h)  {nx tg a b' w : Nat} {v : Int32} {lv : Int64} {sw : List (Int32 × Nat)} (hE : E = (.ishr, nx, tg, a, b', w, v, lv, sw)) (hok : am_ok1 mt own mnm cc nL ret pc E = true)
    (hk : am_K (am_step scr E L st h) (am_cont p l e R s m args below meth c Q b0 b cI cB dC dI nL n0 z0) Kr Kc) : W p l e R s m args below meth c H locs cells slots Q (F0 m pc ls (st.map (am_cv b0 b))) := by
  subst hE
  obtain ⟨hd0, hok⟩ := am_and hok
  have hd0 := of_decide_eq_true hd0
  obtain ⟨hx, hb, hml, hown, hts, hK, hmn, hb0, hsc⟩ := hc
  obtain ⟨hP, hS, hL⟩ := hrep
  obtain ⟨e9, hd⟩ := am_dec hd0 hok
  subst e9
  obtain ⟨x, y, r, rfl, hk⟩ := am_i2_inv hk
  have hk : am_cont p l e R s m args below meth c Q b0 b cI cB dC dI nL n0 z0 (_, L, .int (x >>> (y &&& 31)) :: r, h) := hk
  exact lv_ishr hx hb hd (hk.2 H locs ls cells slots ⟨hP, hS, hL⟩ hcells hslots)
set_option maxHeartbeats 1000000 in
theorem am_s_iushr {E : am_I} (hc : am_ctx p s m args meth c b0 b cI cB dC dI cc own mnm nL n0 scr) (hroom : 1 ≤ R.frames ∧ 100 ≤ R.locals) (hrep : am_rep b0 b cI cB dC dI s nL H locs ls L h) (hcells : cells + n0 = h.length) (hslots : slots + z0 = am_szs h)  {nx tg a b' w : Nat} {v : Int32} {lv : Int64} {sw : List (Int32 × Nat)} (hE : E = (.iushr, nx, tg, a, b', w, v, lv, sw)) (hok : am_ok1 mt own mnm cc nL ret pc E = true)
    (hk : am_K (am_step scr E L st h) (am_cont p l e R s m args below meth c Q b0 b cI cB dC dI nL n0 z0) Kr Kc) : W p l e R s m args below meth c H locs cells slots Q (F0 m pc ls (st.map (am_cv b0 b))) := by
  subst hE
  obtain ⟨hd0, hok⟩ := am_and hok
  have hd0 := of_decide_eq_true hd0
  obtain ⟨hx, hb, hml, hown, hts, hK, hmn, hb0, hsc⟩ := hc
  obtain ⟨hP, hS, hL⟩ := hrep
  obtain ⟨e9, hd⟩ := am_dec hd0 hok
  subst e9
  obtain ⟨x, y, r, rfl, hk⟩ := am_i2_inv hk
  have hk : am_cont p l e R s m args below meth c Q b0 b cI cB dC dI nL n0 z0 (_, L, .int (x.toUInt32 >>> (y.toUInt32 &&& Int32.toUInt32 31)).toInt32 :: r, h) := hk
  exact lv_iushr hx hb hd rfl (hk.2 H locs ls cells slots ⟨hP, hS, hL⟩ hcells hslots)
set_option maxHeartbeats 1000000 in
theorem am_s_idiv {E : am_I} (hc : am_ctx p s m args meth c b0 b cI cB dC dI cc own mnm nL n0 scr) (hroom : 1 ≤ R.frames ∧ 100 ≤ R.locals) (hrep : am_rep b0 b cI cB dC dI s nL H locs ls L h) (hcells : cells + n0 = h.length) (hslots : slots + z0 = am_szs h)  {nx tg a b' w : Nat} {v : Int32} {lv : Int64} {sw : List (Int32 × Nat)} (hE : E = (.idiv, nx, tg, a, b', w, v, lv, sw)) (hok : am_ok1 mt own mnm cc nL ret pc E = true)
    (hk : am_K (am_step scr E L st h) (am_cont p l e R s m args below meth c Q b0 b cI cB dC dI nL n0 z0) Kr Kc) : W p l e R s m args below meth c H locs cells slots Q (F0 m pc ls (st.map (am_cv b0 b))) := by
  subst hE
  obtain ⟨hd0, hok⟩ := am_and hok
  have hd0 := of_decide_eq_true hd0
  obtain ⟨hx, hb, hml, hown, hts, hK, hmn, hb0, hsc⟩ := hc
  obtain ⟨hP, hS, hL⟩ := hrep
  obtain ⟨e9, hd⟩ := am_dec hd0 hok
  subst e9
  obtain ⟨x, y, r, rfl, hk⟩ := am_i2_inv hk
  have hk : (¬ y = 0) ∧ am_cont p l e R s m args below meth c Q b0 b cI cB dC dI nL n0 z0 (_, L, .int (x / y) :: r, h) := hk
  exact lv_idiv hx hb hd hk.1 (hk.2.2 H locs ls cells slots ⟨hP, hS, hL⟩ hcells hslots)
set_option maxHeartbeats 1000000 in
theorem am_s_irem {E : am_I} (hc : am_ctx p s m args meth c b0 b cI cB dC dI cc own mnm nL n0 scr) (hroom : 1 ≤ R.frames ∧ 100 ≤ R.locals) (hrep : am_rep b0 b cI cB dC dI s nL H locs ls L h) (hcells : cells + n0 = h.length) (hslots : slots + z0 = am_szs h)  {nx tg a b' w : Nat} {v : Int32} {lv : Int64} {sw : List (Int32 × Nat)} (hE : E = (.irem, nx, tg, a, b', w, v, lv, sw)) (hok : am_ok1 mt own mnm cc nL ret pc E = true)
    (hk : am_K (am_step scr E L st h) (am_cont p l e R s m args below meth c Q b0 b cI cB dC dI nL n0 z0) Kr Kc) : W p l e R s m args below meth c H locs cells slots Q (F0 m pc ls (st.map (am_cv b0 b))) := by
  subst hE
  obtain ⟨hd0, hok⟩ := am_and hok
  have hd0 := of_decide_eq_true hd0
  obtain ⟨hx, hb, hml, hown, hts, hK, hmn, hb0, hsc⟩ := hc
  obtain ⟨hP, hS, hL⟩ := hrep
  obtain ⟨e9, hd⟩ := am_dec hd0 hok
  subst e9
  obtain ⟨x, y, r, rfl, hk⟩ := am_i2_inv hk
  have hk : (¬ y = 0) ∧ am_cont p l e R s m args below meth c Q b0 b cI cB dC dI nL n0 z0 (_, L, .int (x - x / y * y) :: r, h) := hk
  exact lv_irem hx hb hd hk.1 (hk.2.2 H locs ls cells slots ⟨hP, hS, hL⟩ hcells hslots)
set_option maxHeartbeats 1000000 in
theorem am_s_ladd {E : am_I} (hc : am_ctx p s m args meth c b0 b cI cB dC dI cc own mnm nL n0 scr) (hroom : 1 ≤ R.frames ∧ 100 ≤ R.locals) (hrep : am_rep b0 b cI cB dC dI s nL H locs ls L h) (hcells : cells + n0 = h.length) (hslots : slots + z0 = am_szs h)  {nx tg a b' w : Nat} {v : Int32} {lv : Int64} {sw : List (Int32 × Nat)} (hE : E = (.ladd, nx, tg, a, b', w, v, lv, sw)) (hok : am_ok1 mt own mnm cc nL ret pc E = true)
    (hk : am_K (am_step scr E L st h) (am_cont p l e R s m args below meth c Q b0 b cI cB dC dI nL n0 z0) Kr Kc) : W p l e R s m args below meth c H locs cells slots Q (F0 m pc ls (st.map (am_cv b0 b))) := by
  subst hE
  obtain ⟨hd0, hok⟩ := am_and hok
  have hd0 := of_decide_eq_true hd0
  obtain ⟨hx, hb, hml, hown, hts, hK, hmn, hb0, hsc⟩ := hc
  obtain ⟨hP, hS, hL⟩ := hrep
  obtain ⟨e9, hd⟩ := am_dec hd0 hok
  subst e9
  obtain ⟨x, y, r, rfl, hk⟩ := am_j2_inv hk
  have hk : am_cont p l e R s m args below meth c Q b0 b cI cB dC dI nL n0 z0 (_, L, .long (x + y) :: r, h) := hk
  exact lv_ladd hx hb hd (hk.2 H locs ls cells slots ⟨hP, hS, hL⟩ hcells hslots)
set_option maxHeartbeats 1000000 in
theorem am_s_lmul {E : am_I} (hc : am_ctx p s m args meth c b0 b cI cB dC dI cc own mnm nL n0 scr) (hroom : 1 ≤ R.frames ∧ 100 ≤ R.locals) (hrep : am_rep b0 b cI cB dC dI s nL H locs ls L h) (hcells : cells + n0 = h.length) (hslots : slots + z0 = am_szs h)  {nx tg a b' w : Nat} {v : Int32} {lv : Int64} {sw : List (Int32 × Nat)} (hE : E = (.lmul, nx, tg, a, b', w, v, lv, sw)) (hok : am_ok1 mt own mnm cc nL ret pc E = true)
    (hk : am_K (am_step scr E L st h) (am_cont p l e R s m args below meth c Q b0 b cI cB dC dI nL n0 z0) Kr Kc) : W p l e R s m args below meth c H locs cells slots Q (F0 m pc ls (st.map (am_cv b0 b))) := by
  subst hE
  obtain ⟨hd0, hok⟩ := am_and hok
  have hd0 := of_decide_eq_true hd0
  obtain ⟨hx, hb, hml, hown, hts, hK, hmn, hb0, hsc⟩ := hc
  obtain ⟨hP, hS, hL⟩ := hrep
  obtain ⟨e9, hd⟩ := am_dec hd0 hok
  subst e9
  obtain ⟨x, y, r, rfl, hk⟩ := am_j2_inv hk
  have hk : am_cont p l e R s m args below meth c Q b0 b cI cB dC dI nL n0 z0 (_, L, .long (x * y) :: r, h) := hk
  exact lv_lmul hx hb hd (hk.2 H locs ls cells slots ⟨hP, hS, hL⟩ hcells hslots)
set_option maxHeartbeats 1000000 in
theorem am_s_lrem {E : am_I} (hc : am_ctx p s m args meth c b0 b cI cB dC dI cc own mnm nL n0 scr) (hroom : 1 ≤ R.frames ∧ 100 ≤ R.locals) (hrep : am_rep b0 b cI cB dC dI s nL H locs ls L h) (hcells : cells + n0 = h.length) (hslots : slots + z0 = am_szs h)  {nx tg a b' w : Nat} {v : Int32} {lv : Int64} {sw : List (Int32 × Nat)} (hE : E = (.lrem, nx, tg, a, b', w, v, lv, sw)) (hok : am_ok1 mt own mnm cc nL ret pc E = true)
    (hk : am_K (am_step scr E L st h) (am_cont p l e R s m args below meth c Q b0 b cI cB dC dI nL n0 z0) Kr Kc) : W p l e R s m args below meth c H locs cells slots Q (F0 m pc ls (st.map (am_cv b0 b))) := by
  subst hE
  obtain ⟨hd0, hok⟩ := am_and hok
  have hd0 := of_decide_eq_true hd0
  obtain ⟨hx, hb, hml, hown, hts, hK, hmn, hb0, hsc⟩ := hc
  obtain ⟨hP, hS, hL⟩ := hrep
  obtain ⟨e9, hd⟩ := am_dec hd0 hok
  subst e9
  obtain ⟨x, y, r, rfl, hk⟩ := am_j2_inv hk
  have hk : (¬ y = 0) ∧ am_cont p l e R s m args below meth c Q b0 b cI cB dC dI nL n0 z0 (_, L, .long (x - x / y * y) :: r, h) := hk
  exact lv_lrem hx hb hd hk.1 (hk.2.2 H locs ls cells slots ⟨hP, hS, hL⟩ hcells hslots)
set_option maxHeartbeats 1000000 in
theorem am_s_lcmp {E : am_I} (hc : am_ctx p s m args meth c b0 b cI cB dC dI cc own mnm nL n0 scr) (hroom : 1 ≤ R.frames ∧ 100 ≤ R.locals) (hrep : am_rep b0 b cI cB dC dI s nL H locs ls L h) (hcells : cells + n0 = h.length) (hslots : slots + z0 = am_szs h)  {nx tg a b' w : Nat} {v : Int32} {lv : Int64} {sw : List (Int32 × Nat)} (hE : E = (.lcmp, nx, tg, a, b', w, v, lv, sw)) (hok : am_ok1 mt own mnm cc nL ret pc E = true)
    (hk : am_K (am_step scr E L st h) (am_cont p l e R s m args below meth c Q b0 b cI cB dC dI nL n0 z0) Kr Kc) : W p l e R s m args below meth c H locs cells slots Q (F0 m pc ls (st.map (am_cv b0 b))) := by
  subst hE
  obtain ⟨hd0, hok⟩ := am_and hok
  have hd0 := of_decide_eq_true hd0
  obtain ⟨hx, hb, hml, hown, hts, hK, hmn, hb0, hsc⟩ := hc
  obtain ⟨hP, hS, hL⟩ := hrep
  obtain ⟨e9, hd⟩ := am_dec hd0 hok
  subst e9
  obtain ⟨x, y, r, rfl, hk⟩ := am_j2_inv hk
  have hk : am_cont p l e R s m args below meth c Q b0 b cI cB dC dI nL n0 z0 (_, L, .int (lg_cmp x y) :: r, h) := hk
  exact W.lcmp hx hb hd (hk.2 H locs ls cells slots ⟨hP, hS, hL⟩ hcells hslots)
set_option maxHeartbeats 1000000 in
theorem am_s_ineg {E : am_I} (hc : am_ctx p s m args meth c b0 b cI cB dC dI cc own mnm nL n0 scr) (hroom : 1 ≤ R.frames ∧ 100 ≤ R.locals) (hrep : am_rep b0 b cI cB dC dI s nL H locs ls L h) (hcells : cells + n0 = h.length) (hslots : slots + z0 = am_szs h)  {nx tg a b' w : Nat} {v : Int32} {lv : Int64} {sw : List (Int32 × Nat)} (hE : E = (.ineg, nx, tg, a, b', w, v, lv, sw)) (hok : am_ok1 mt own mnm cc nL ret pc E = true)
    (hk : am_K (am_step scr E L st h) (am_cont p l e R s m args below meth c Q b0 b cI cB dC dI nL n0 z0) Kr Kc) : W p l e R s m args below meth c H locs cells slots Q (F0 m pc ls (st.map (am_cv b0 b))) := by
  subst hE
  obtain ⟨hd0, hok⟩ := am_and hok
  have hd0 := of_decide_eq_true hd0
  obtain ⟨hx, hb, hml, hown, hts, hK, hmn, hb0, hsc⟩ := hc
  obtain ⟨hP, hS, hL⟩ := hrep
  obtain ⟨e9, hd⟩ := am_dec hd0 hok
  subst e9
  obtain ⟨x, r, rfl, hk⟩ := am_i1_inv hk
  have hk : am_cont p l e R s m args below meth c Q b0 b cI cB dC dI nL n0 z0 (_, L, .int (-x) :: r, h) := hk
  exact lv_ineg hx hb hd (hk.2 H locs ls cells slots ⟨hP, hS, hL⟩ hcells hslots)
set_option maxHeartbeats 1000000 in
theorem am_s_i2l {E : am_I} (hc : am_ctx p s m args meth c b0 b cI cB dC dI cc own mnm nL n0 scr) (hroom : 1 ≤ R.frames ∧ 100 ≤ R.locals) (hrep : am_rep b0 b cI cB dC dI s nL H locs ls L h) (hcells : cells + n0 = h.length) (hslots : slots + z0 = am_szs h)  {nx tg a b' w : Nat} {v : Int32} {lv : Int64} {sw : List (Int32 × Nat)} (hE : E = (.i2l, nx, tg, a, b', w, v, lv, sw)) (hok : am_ok1 mt own mnm cc nL ret pc E = true)
    (hk : am_K (am_step scr E L st h) (am_cont p l e R s m args below meth c Q b0 b cI cB dC dI nL n0 z0) Kr Kc) : W p l e R s m args below meth c H locs cells slots Q (F0 m pc ls (st.map (am_cv b0 b))) := by
  subst hE
  obtain ⟨hd0, hok⟩ := am_and hok
  have hd0 := of_decide_eq_true hd0
  obtain ⟨hx, hb, hml, hown, hts, hK, hmn, hb0, hsc⟩ := hc
  obtain ⟨hP, hS, hL⟩ := hrep
  obtain ⟨e9, hd⟩ := am_dec hd0 hok
  subst e9
  obtain ⟨x, r, rfl, hk⟩ := am_i1_inv hk
  have hk : am_cont p l e R s m args below meth c Q b0 b cI cB dC dI nL n0 z0 (_, L, .long x.toInt64 :: r, h) := hk
  exact lv_i2l hx hb hd rfl (hk.2 H locs ls cells slots ⟨hP, hS, hL⟩ hcells hslots)
set_option maxHeartbeats 1000000 in
theorem am_s_l2i {E : am_I} (hc : am_ctx p s m args meth c b0 b cI cB dC dI cc own mnm nL n0 scr) (hroom : 1 ≤ R.frames ∧ 100 ≤ R.locals) (hrep : am_rep b0 b cI cB dC dI s nL H locs ls L h) (hcells : cells + n0 = h.length) (hslots : slots + z0 = am_szs h)  {nx tg a b' w : Nat} {v : Int32} {lv : Int64} {sw : List (Int32 × Nat)} (hE : E = (.l2i, nx, tg, a, b', w, v, lv, sw)) (hok : am_ok1 mt own mnm cc nL ret pc E = true)
    (hk : am_K (am_step scr E L st h) (am_cont p l e R s m args below meth c Q b0 b cI cB dC dI nL n0 z0) Kr Kc) : W p l e R s m args below meth c H locs cells slots Q (F0 m pc ls (st.map (am_cv b0 b))) := by
  subst hE
  obtain ⟨hd0, hok⟩ := am_and hok
  have hd0 := of_decide_eq_true hd0
  obtain ⟨hx, hb, hml, hown, hts, hK, hmn, hb0, hsc⟩ := hc
  obtain ⟨hP, hS, hL⟩ := hrep
  obtain ⟨e9, hd⟩ := am_dec hd0 hok
  subst e9
  obtain ⟨x, r, rfl, hk⟩ := am_j1_inv hk
  have hk : am_cont p l e R s m args below meth c Q b0 b cI cB dC dI nL n0 z0 (_, L, .int x.toInt32 :: r, h) := hk
  exact lv_l2i hx hb hd rfl (hk.2 H locs ls cells slots ⟨hP, hS, hL⟩ hcells hslots)
set_option maxHeartbeats 1000000 in
theorem am_s_i2b {E : am_I} (hc : am_ctx p s m args meth c b0 b cI cB dC dI cc own mnm nL n0 scr) (hroom : 1 ≤ R.frames ∧ 100 ≤ R.locals) (hrep : am_rep b0 b cI cB dC dI s nL H locs ls L h) (hcells : cells + n0 = h.length) (hslots : slots + z0 = am_szs h)  {nx tg a b' w : Nat} {v : Int32} {lv : Int64} {sw : List (Int32 × Nat)} (hE : E = (.i2b, nx, tg, a, b', w, v, lv, sw)) (hok : am_ok1 mt own mnm cc nL ret pc E = true)
    (hk : am_K (am_step scr E L st h) (am_cont p l e R s m args below meth c Q b0 b cI cB dC dI nL n0 z0) Kr Kc) : W p l e R s m args below meth c H locs cells slots Q (F0 m pc ls (st.map (am_cv b0 b))) := by
  subst hE
  obtain ⟨hd0, hok⟩ := am_and hok
  have hd0 := of_decide_eq_true hd0
  obtain ⟨hx, hb, hml, hown, hts, hK, hmn, hb0, hsc⟩ := hc
  obtain ⟨hP, hS, hL⟩ := hrep
  obtain ⟨e9, hd⟩ := am_dec hd0 hok
  subst e9
  obtain ⟨x, r, rfl, hk⟩ := am_i1_inv hk
  have hk : am_cont p l e R s m args below meth c Q b0 b cI cB dC dI nL n0 z0 (_, L, .int x.toInt8.toInt32 :: r, h) := hk
  exact lv_i2b hx hb hd rfl (hk.2 H locs ls cells slots ⟨hP, hS, hL⟩ hcells hslots)
set_option maxHeartbeats 1000000 in
theorem am_s_i2s {E : am_I} (hc : am_ctx p s m args meth c b0 b cI cB dC dI cc own mnm nL n0 scr) (hroom : 1 ≤ R.frames ∧ 100 ≤ R.locals) (hrep : am_rep b0 b cI cB dC dI s nL H locs ls L h) (hcells : cells + n0 = h.length) (hslots : slots + z0 = am_szs h)  {nx tg a b' w : Nat} {v : Int32} {lv : Int64} {sw : List (Int32 × Nat)} (hE : E = (.i2s, nx, tg, a, b', w, v, lv, sw)) (hok : am_ok1 mt own mnm cc nL ret pc E = true)
    (hk : am_K (am_step scr E L st h) (am_cont p l e R s m args below meth c Q b0 b cI cB dC dI nL n0 z0) Kr Kc) : W p l e R s m args below meth c H locs cells slots Q (F0 m pc ls (st.map (am_cv b0 b))) := by
  subst hE
  obtain ⟨hd0, hok⟩ := am_and hok
  have hd0 := of_decide_eq_true hd0
  obtain ⟨hx, hb, hml, hown, hts, hK, hmn, hb0, hsc⟩ := hc
  obtain ⟨hP, hS, hL⟩ := hrep
  obtain ⟨e9, hd⟩ := am_dec hd0 hok
  subst e9
  obtain ⟨x, r, rfl, hk⟩ := am_i1_inv hk
  have hk : am_cont p l e R s m args below meth c Q b0 b cI cB dC dI nL n0 z0 (_, L, .int x.toInt16.toInt32 :: r, h) := hk
  exact lv_i2s hx hb hd rfl (hk.2 H locs ls cells slots ⟨hP, hS, hL⟩ hcells hslots)
set_option maxHeartbeats 1000000 in
theorem am_s_dup {E : am_I} (hc : am_ctx p s m args meth c b0 b cI cB dC dI cc own mnm nL n0 scr) (hroom : 1 ≤ R.frames ∧ 100 ≤ R.locals) (hrep : am_rep b0 b cI cB dC dI s nL H locs ls L h) (hcells : cells + n0 = h.length) (hslots : slots + z0 = am_szs h)  {nx tg a b' w : Nat} {v : Int32} {lv : Int64} {sw : List (Int32 × Nat)} (hE : E = (.dup, nx, tg, a, b', w, v, lv, sw)) (hok : am_ok1 mt own mnm cc nL ret pc E = true)
    (hk : am_K (am_step scr E L st h) (am_cont p l e R s m args below meth c Q b0 b cI cB dC dI nL n0 z0) Kr Kc) : W p l e R s m args below meth c H locs cells slots Q (F0 m pc ls (st.map (am_cv b0 b))) := by
  subst hE
  obtain ⟨hd0, hok⟩ := am_and hok
  have hd0 := of_decide_eq_true hd0
  obtain ⟨hx, hb, hml, hown, hts, hK, hmn, hb0, hsc⟩ := hc
  obtain ⟨hP, hS, hL⟩ := hrep
  obtain ⟨e9, hd⟩ := am_dec hd0 hok
  subst e9
  obtain ⟨x, r, rfl, hk⟩ := am_v1_inv hk
  obtain ⟨hx1, hk⟩ := am_bb_inv hk
  have hk : am_cont p l e R s m args below meth c Q b0 b cI cB dC dI nL n0 z0 (_, L, x :: x :: r, h) := hk
  exact lv_dup hx hb hd ((am_cv_cat b0 b x).trans (am_beq hx1)) (hk.2 H locs ls cells slots ⟨hP, hS, hL⟩ hcells hslots)
set_option maxHeartbeats 1000000 in
theorem am_s_dup2 {E : am_I} (hc : am_ctx p s m args meth c b0 b cI cB dC dI cc own mnm nL n0 scr) (hroom : 1 ≤ R.frames ∧ 100 ≤ R.locals) (hrep : am_rep b0 b cI cB dC dI s nL H locs ls L h) (hcells : cells + n0 = h.length) (hslots : slots + z0 = am_szs h)  {nx tg a b' w : Nat} {v : Int32} {lv : Int64} {sw : List (Int32 × Nat)} (hE : E = (.dup2, nx, tg, a, b', w, v, lv, sw)) (hok : am_ok1 mt own mnm cc nL ret pc E = true)
    (hk : am_K (am_step scr E L st h) (am_cont p l e R s m args below meth c Q b0 b cI cB dC dI nL n0 z0) Kr Kc) : W p l e R s m args below meth c H locs cells slots Q (F0 m pc ls (st.map (am_cv b0 b))) := by
  subst hE
  obtain ⟨hd0, hok⟩ := am_and hok
  have hd0 := of_decide_eq_true hd0
  obtain ⟨hx, hb, hml, hown, hts, hK, hmn, hb0, hsc⟩ := hc
  obtain ⟨hP, hS, hL⟩ := hrep
  obtain ⟨e9, hd⟩ := am_dec hd0 hok
  subst e9
  obtain ⟨x, r, rfl, hk⟩ := am_v1_inv hk
  obtain ⟨y, r, rfl, hk⟩ := am_v1_inv hk
  obtain ⟨hx1, hk⟩ := am_bb_inv hk
  obtain ⟨hx2, hk⟩ := am_bb_inv hk
  have hk : am_cont p l e R s m args below meth c Q b0 b cI cB dC dI nL n0 z0 (_, L, x :: y :: x :: y :: r, h) := hk
  exact lv_dup2_11 hx hb hd ((am_cv_cat b0 b x).trans (am_beq hx1)) ((am_cv_cat b0 b y).trans (am_beq hx2)) (hk.2 H locs ls cells slots ⟨hP, hS, hL⟩ hcells hslots)
set_option maxHeartbeats 1000000 in
theorem am_s_pop {E : am_I} (hc : am_ctx p s m args meth c b0 b cI cB dC dI cc own mnm nL n0 scr) (hroom : 1 ≤ R.frames ∧ 100 ≤ R.locals) (hrep : am_rep b0 b cI cB dC dI s nL H locs ls L h) (hcells : cells + n0 = h.length) (hslots : slots + z0 = am_szs h)  {nx tg a b' w : Nat} {v : Int32} {lv : Int64} {sw : List (Int32 × Nat)} (hE : E = (.pop, nx, tg, a, b', w, v, lv, sw)) (hok : am_ok1 mt own mnm cc nL ret pc E = true)
    (hk : am_K (am_step scr E L st h) (am_cont p l e R s m args below meth c Q b0 b cI cB dC dI nL n0 z0) Kr Kc) : W p l e R s m args below meth c H locs cells slots Q (F0 m pc ls (st.map (am_cv b0 b))) := by
  subst hE
  obtain ⟨hd0, hok⟩ := am_and hok
  have hd0 := of_decide_eq_true hd0
  obtain ⟨hx, hb, hml, hown, hts, hK, hmn, hb0, hsc⟩ := hc
  obtain ⟨hP, hS, hL⟩ := hrep
  obtain ⟨e9, hd⟩ := am_dec hd0 hok
  subst e9
  obtain ⟨x, r, rfl, hk⟩ := am_v1_inv hk
  obtain ⟨hx1, hk⟩ := am_bb_inv hk
  have hk : am_cont p l e R s m args below meth c Q b0 b cI cB dC dI nL n0 z0 (_, L, r, h) := hk
  exact lv_pop hx hb hd ((am_cv_cat b0 b x).trans (am_beq hx1)) (hk.2 H locs ls cells slots ⟨hP, hS, hL⟩ hcells hslots)
set_option maxHeartbeats 1000000 in
theorem am_s_goto {E : am_I} (hc : am_ctx p s m args meth c b0 b cI cB dC dI cc own mnm nL n0 scr) (hroom : 1 ≤ R.frames ∧ 100 ≤ R.locals) (hrep : am_rep b0 b cI cB dC dI s nL H locs ls L h) (hcells : cells + n0 = h.length) (hslots : slots + z0 = am_szs h) {o : Int} {nx tg a b' w : Nat} {v : Int32} {lv : Int64} {sw : List (Int32 × Nat)} (hE : E = (.goto o, nx, tg, a, b', w, v, lv, sw)) (hok : am_ok1 mt own mnm cc nL ret pc E = true)
    (hk : am_K (am_step scr E L st h) (am_cont p l e R s m args below meth c Q b0 b cI cB dC dI nL n0 z0) Kr Kc) : W p l e R s m args below meth c H locs cells slots Q (F0 m pc ls (st.map (am_cv b0 b))) := by
  subst hE
  obtain ⟨hd0, hok⟩ := am_and hok
  have hd0 := of_decide_eq_true hd0
  obtain ⟨hx, hb, hml, hown, hts, hK, hmn, hb0, hsc⟩ := hc
  obtain ⟨hP, hS, hL⟩ := hrep
  obtain ⟨hl, hv⟩ := am_and hok
  obtain ⟨e9, hd⟩ := am_dec hd0 hl
  subst e9
  have hk : am_cont p l e R s m args below meth c Q b0 b cI cB dC dI nL n0 z0 (tg, L, st, h) := hk
  exact lv_goto hx hb hd (of_decide_eq_true hv) (hk.2 H locs ls cells slots ⟨hP, hS, hL⟩ hcells hslots)
set_option maxHeartbeats 1000000 in
theorem am_s_icmp {E : am_I} (hc : am_ctx p s m args meth c b0 b cI cB dC dI cc own mnm nL n0 scr) (hroom : 1 ≤ R.frames ∧ 100 ≤ R.locals) (hrep : am_rep b0 b cI cB dC dI s nL H locs ls L h) (hcells : cells + n0 = h.length) (hslots : slots + z0 = am_szs h) {cd : ClassFile.Cond} {o : Int} {nx tg a b' w : Nat} {v : Int32} {lv : Int64} {sw : List (Int32 × Nat)} (hE : E = (.if_icmp cd o, nx, tg, a, b', w, v, lv, sw)) (hok : am_ok1 mt own mnm cc nL ret pc E = true)
    (hk : am_K (am_step scr E L st h) (am_cont p l e R s m args below meth c Q b0 b cI cB dC dI nL n0 z0) Kr Kc) : W p l e R s m args below meth c H locs cells slots Q (F0 m pc ls (st.map (am_cv b0 b))) := by
  subst hE
  obtain ⟨hd0, hok⟩ := am_and hok
  have hd0 := of_decide_eq_true hd0
  obtain ⟨hx, hb, hml, hown, hts, hK, hmn, hb0, hsc⟩ := hc
  obtain ⟨hP, hS, hL⟩ := hrep
  obtain ⟨hl, hv⟩ := am_and hok
  obtain ⟨e9, hd⟩ := am_dec hd0 hl
  subst e9
  obtain ⟨x, y, r, rfl, hk⟩ := am_i2_inv hk
  cases cd with
  | eq =>
    have hk : (x = y → am_cont p l e R s m args below meth c Q b0 b cI cB dC dI nL n0 z0 (tg, L, r, h)) ∧ (¬ (x = y) → am_cont p l e R s m args below meth c Q b0 b cI cB dC dI nL n0 z0 (_, L, r, h)) := hk
    exact lv_icmp_eq hx hb hd (of_decide_eq_true hv) (fun q => ((hk.1 q).2 H locs ls cells slots ⟨hP, hS, hL⟩ hcells hslots)) (fun q => ((hk.2 q).2 H locs ls cells slots ⟨hP, hS, hL⟩ hcells hslots))
  | ne =>
    have hk : (x = y → am_cont p l e R s m args below meth c Q b0 b cI cB dC dI nL n0 z0 (_, L, r, h)) ∧ (¬ (x = y) → am_cont p l e R s m args below meth c Q b0 b cI cB dC dI nL n0 z0 (tg, L, r, h)) := hk
    exact lv_icmp_ne hx hb hd (of_decide_eq_true hv) (fun q => ((hk.2 q).2 H locs ls cells slots ⟨hP, hS, hL⟩ hcells hslots)) (fun q => ((hk.1 q).2 H locs ls cells slots ⟨hP, hS, hL⟩ hcells hslots))
  | lt =>
    have hk : (x < y → am_cont p l e R s m args below meth c Q b0 b cI cB dC dI nL n0 z0 (tg, L, r, h)) ∧ (¬ (x < y) → am_cont p l e R s m args below meth c Q b0 b cI cB dC dI nL n0 z0 (_, L, r, h)) := hk
    exact lv_icmp_lt hx hb hd (of_decide_eq_true hv) (fun q => ((hk.1 q).2 H locs ls cells slots ⟨hP, hS, hL⟩ hcells hslots)) (fun q => ((hk.2 q).2 H locs ls cells slots ⟨hP, hS, hL⟩ hcells hslots))
  | ge =>
    have hk : (y ≤ x → am_cont p l e R s m args below meth c Q b0 b cI cB dC dI nL n0 z0 (tg, L, r, h)) ∧ (¬ (y ≤ x) → am_cont p l e R s m args below meth c Q b0 b cI cB dC dI nL n0 z0 (_, L, r, h)) := hk
    exact lv_icmp_ge hx hb hd (of_decide_eq_true hv) (fun q => ((hk.1 q).2 H locs ls cells slots ⟨hP, hS, hL⟩ hcells hslots)) (fun q => ((hk.2 q).2 H locs ls cells slots ⟨hP, hS, hL⟩ hcells hslots))
  | gt =>
    have hk : (y < x → am_cont p l e R s m args below meth c Q b0 b cI cB dC dI nL n0 z0 (tg, L, r, h)) ∧ (¬ (y < x) → am_cont p l e R s m args below meth c Q b0 b cI cB dC dI nL n0 z0 (_, L, r, h)) := hk
    exact lv_icmp_gt hx hb hd (of_decide_eq_true hv) (fun q => ((hk.1 q).2 H locs ls cells slots ⟨hP, hS, hL⟩ hcells hslots)) (fun q => ((hk.2 q).2 H locs ls cells slots ⟨hP, hS, hL⟩ hcells hslots))
  | le =>
    have hk : (x ≤ y → am_cont p l e R s m args below meth c Q b0 b cI cB dC dI nL n0 z0 (tg, L, r, h)) ∧ (¬ (x ≤ y) → am_cont p l e R s m args below meth c Q b0 b cI cB dC dI nL n0 z0 (_, L, r, h)) := hk
    exact lv_icmp_le hx hb hd (of_decide_eq_true hv) (fun q => ((hk.1 q).2 H locs ls cells slots ⟨hP, hS, hL⟩ hcells hslots)) (fun q => ((hk.2 q).2 H locs ls cells slots ⟨hP, hS, hL⟩ hcells hslots))
set_option maxHeartbeats 1000000 in
theorem am_s_ifc {E : am_I} (hc : am_ctx p s m args meth c b0 b cI cB dC dI cc own mnm nL n0 scr) (hroom : 1 ≤ R.frames ∧ 100 ≤ R.locals) (hrep : am_rep b0 b cI cB dC dI s nL H locs ls L h) (hcells : cells + n0 = h.length) (hslots : slots + z0 = am_szs h) {cd : ClassFile.Cond} {o : Int} {nx tg a b' w : Nat} {v : Int32} {lv : Int64} {sw : List (Int32 × Nat)} (hE : E = (.ifCond cd o, nx, tg, a, b', w, v, lv, sw)) (hok : am_ok1 mt own mnm cc nL ret pc E = true)
    (hk : am_K (am_step scr E L st h) (am_cont p l e R s m args below meth c Q b0 b cI cB dC dI nL n0 z0) Kr Kc) : W p l e R s m args below meth c H locs cells slots Q (F0 m pc ls (st.map (am_cv b0 b))) := by
  subst hE
  obtain ⟨hd0, hok⟩ := am_and hok
  have hd0 := of_decide_eq_true hd0
  obtain ⟨hx, hb, hml, hown, hts, hK, hmn, hb0, hsc⟩ := hc
  obtain ⟨hP, hS, hL⟩ := hrep
  obtain ⟨hl, hv⟩ := am_and hok
  obtain ⟨e9, hd⟩ := am_dec hd0 hl
  subst e9
  obtain ⟨x, r, rfl, hk⟩ := am_i1_inv hk
  cases cd with
  | eq =>
    have hk : (x = 0 → am_cont p l e R s m args below meth c Q b0 b cI cB dC dI nL n0 z0 (tg, L, r, h)) ∧ (¬ (x = 0) → am_cont p l e R s m args below meth c Q b0 b cI cB dC dI nL n0 z0 (_, L, r, h)) := hk
    exact lv_if_eq hx hb hd (of_decide_eq_true hv) (fun q => ((hk.1 q).2 H locs ls cells slots ⟨hP, hS, hL⟩ hcells hslots)) (fun q => ((hk.2 q).2 H locs ls cells slots ⟨hP, hS, hL⟩ hcells hslots))
  | ne =>
    have hk : (x = 0 → am_cont p l e R s m args below meth c Q b0 b cI cB dC dI nL n0 z0 (_, L, r, h)) ∧ (¬ (x = 0) → am_cont p l e R s m args below meth c Q b0 b cI cB dC dI nL n0 z0 (tg, L, r, h)) := hk
    exact lv_if_ne hx hb hd (of_decide_eq_true hv) (fun q => ((hk.2 q).2 H locs ls cells slots ⟨hP, hS, hL⟩ hcells hslots)) (fun q => ((hk.1 q).2 H locs ls cells slots ⟨hP, hS, hL⟩ hcells hslots))
  | lt =>
    have hk : (x < 0 → am_cont p l e R s m args below meth c Q b0 b cI cB dC dI nL n0 z0 (tg, L, r, h)) ∧ (¬ (x < 0) → am_cont p l e R s m args below meth c Q b0 b cI cB dC dI nL n0 z0 (_, L, r, h)) := hk
    exact lv_if_lt hx hb hd (of_decide_eq_true hv) (fun q => ((hk.1 q).2 H locs ls cells slots ⟨hP, hS, hL⟩ hcells hslots)) (fun q => ((hk.2 q).2 H locs ls cells slots ⟨hP, hS, hL⟩ hcells hslots))
  | ge =>
    have hk : (0 ≤ x → am_cont p l e R s m args below meth c Q b0 b cI cB dC dI nL n0 z0 (tg, L, r, h)) ∧ (¬ (0 ≤ x) → am_cont p l e R s m args below meth c Q b0 b cI cB dC dI nL n0 z0 (_, L, r, h)) := hk
    exact lv_if_ge hx hb hd (of_decide_eq_true hv) (fun q => ((hk.1 q).2 H locs ls cells slots ⟨hP, hS, hL⟩ hcells hslots)) (fun q => ((hk.2 q).2 H locs ls cells slots ⟨hP, hS, hL⟩ hcells hslots))
  | gt =>
    have hk : (0 < x → am_cont p l e R s m args below meth c Q b0 b cI cB dC dI nL n0 z0 (tg, L, r, h)) ∧ (¬ (0 < x) → am_cont p l e R s m args below meth c Q b0 b cI cB dC dI nL n0 z0 (_, L, r, h)) := hk
    exact lv_if_gt hx hb hd (of_decide_eq_true hv) (fun q => ((hk.1 q).2 H locs ls cells slots ⟨hP, hS, hL⟩ hcells hslots)) (fun q => ((hk.2 q).2 H locs ls cells slots ⟨hP, hS, hL⟩ hcells hslots))
  | le =>
    have hk : (x ≤ 0 → am_cont p l e R s m args below meth c Q b0 b cI cB dC dI nL n0 z0 (tg, L, r, h)) ∧ (¬ (x ≤ 0) → am_cont p l e R s m args below meth c Q b0 b cI cB dC dI nL n0 z0 (_, L, r, h)) := hk
    exact lv_if_le hx hb hd (of_decide_eq_true hv) (fun q => ((hk.1 q).2 H locs ls cells slots ⟨hP, hS, hL⟩ hcells hslots)) (fun q => ((hk.2 q).2 H locs ls cells slots ⟨hP, hS, hL⟩ hcells hslots))
set_option maxHeartbeats 1000000 in
theorem am_s_tsw {E : am_I} (hc : am_ctx p s m args meth c b0 b cI cB dC dI cc own mnm nL n0 scr) (hroom : 1 ≤ R.frames ∧ 100 ≤ R.locals) (hrep : am_rep b0 b cI cB dC dI s nL H locs ls L h) (hcells : cells + n0 = h.length) (hslots : slots + z0 = am_szs h) {d lo hi : Int} {os : Array Int} {nx tg a b' w : Nat} {v : Int32} {lv : Int64} {sw : List (Int32 × Nat)} (hE : E = (.tableswitch d lo hi os, nx, tg, a, b', w, v, lv, sw)) (hok : am_ok1 mt own mnm cc nL ret pc E = true)
    (hk : am_K (am_step scr E L st h) (am_cont p l e R s m args below meth c Q b0 b cI cB dC dI nL n0 z0) Kr Kc) : W p l e R s m args below meth c H locs cells slots Q (F0 m pc ls (st.map (am_cv b0 b))) := by
  subst hE
  obtain ⟨hd0, hok⟩ := am_and hok
  have hd0 := of_decide_eq_true hd0
  obtain ⟨hx, hb, hml, hown, hts, hK, hmn, hb0, hsc⟩ := hc
  obtain ⟨hP, hS, hL⟩ := hrep
  obtain ⟨hok, hsw⟩ := am_and hok
  obtain ⟨hok, hsz⟩ := am_and hok
  obtain ⟨hle, hdf⟩ := am_and hok
  have hsz := of_decide_eq_true hsz
  obtain ⟨x, r, rfl, hk⟩ := am_i1_inv hk
  have hk : am_cont p l e R s m args below meth c Q b0 b cI cB dC dI nL n0 z0 (am_pick x sw tg, L, r, h) := hk
  obtain ⟨i1, i2⟩ := am_sws_pick (x := x) (d := tg) os.toList sw lo hsw
  rw [Array.length_toList] at i1 i2
  by_cases hin : lo ≤ x.toInt ∧ x.toInt < lo + os.size
  · obtain ⟨off, e1, e2⟩ := i1 hin
    exact lv_tableIn hx hb hd0 (by omega) (by omega) (by rw [← Array.getElem?_toList]; exact e1) e2 (hk.2 H locs ls cells slots ⟨hP, hS, hL⟩ hcells hslots)
  · have e := i2 hin
    rw [e] at hk
    exact lv_tableOut hx hb hd0 (by omega) (of_decide_eq_true hdf) (hk.2 H locs ls cells slots ⟨hP, hS, hL⟩ hcells hslots)
set_option maxHeartbeats 1000000 in
theorem am_s_lsw {E : am_I} (hc : am_ctx p s m args meth c b0 b cI cB dC dI cc own mnm nL n0 scr) (hroom : 1 ≤ R.frames ∧ 100 ≤ R.locals) (hrep : am_rep b0 b cI cB dC dI s nL H locs ls L h) (hcells : cells + n0 = h.length) (hslots : slots + z0 = am_szs h) {d : Int} {ps : Array (Int × Int)} {nx tg a b' w : Nat} {v : Int32} {lv : Int64} {sw : List (Int32 × Nat)} (hE : E = (.lookupswitch d ps, nx, tg, a, b', w, v, lv, sw)) (hok : am_ok1 mt own mnm cc nL ret pc E = true)
    (hk : am_K (am_step scr E L st h) (am_cont p l e R s m args below meth c Q b0 b cI cB dC dI nL n0 z0) Kr Kc) : W p l e R s m args below meth c H locs cells slots Q (F0 m pc ls (st.map (am_cv b0 b))) := by
  subst hE
  obtain ⟨hd0, hok⟩ := am_and hok
  have hd0 := of_decide_eq_true hd0
  obtain ⟨hx, hb, hml, hown, hts, hK, hmn, hb0, hsc⟩ := hc
  obtain ⟨hP, hS, hL⟩ := hrep
  obtain ⟨hok, hsw⟩ := am_and hok
  obtain ⟨hok, hso⟩ := am_and hok
  obtain ⟨hle, hdf⟩ := am_and hok
  obtain ⟨x, r, rfl, hk⟩ := am_i1_inv hk
  have hk : am_cont p l e R s m args below meth c Q b0 b cI cB dC dI nL n0 z0 (am_pick x sw tg, L, r, h) := hk
  exact lv_lookup hx hb hd0 hso rfl (am_swl_pick (x := x) (of_decide_eq_true hdf) ps.toList sw hsw) (hk.2 H locs ls cells slots ⟨hP, hS, hL⟩ hcells hslots)
set_option maxHeartbeats 1000000 in
theorem am_s_getf {E : am_I} (hc : am_ctx p s m args meth c b0 b cI cB dC dI cc own mnm nL n0 scr) (hroom : 1 ≤ R.frames ∧ 100 ≤ R.locals) (hrep : am_rep b0 b cI cB dC dI s nL H locs ls L h) (hcells : cells + n0 = h.length) (hslots : slots + z0 = am_szs h) {i : Nat} {nx tg a b' w : Nat} {v : Int32} {lv : Int64} {sw : List (Int32 × Nat)} (hE : E = (.getfield i, nx, tg, a, b', w, v, lv, sw)) (hok : am_ok1 mt own mnm cc nL ret pc E = true)
    (hk : am_K (am_step scr E L st h) (am_cont p l e R s m args below meth c Q b0 b cI cB dC dI nL n0 z0) Kr Kc) : W p l e R s m args below meth c H locs cells slots Q (F0 m pc ls (st.map (am_cv b0 b))) := by
  subst hE
  obtain ⟨hd0, hok⟩ := am_and hok
  have hd0 := of_decide_eq_true hd0
  obtain ⟨hx, hb, hml, hown, hts, hK, hmn, hb0, hsc⟩ := hc
  obtain ⟨hP, hS, hL⟩ := hrep
  obtain ⟨hl, hf⟩ := am_and hok
  obtain ⟨e9, hd⟩ := am_dec hd0 hl
  subst e9
  obtain ⟨q0, r, rfl, hk1⟩ := am_r1_inv hk
  obtain ⟨ci, fs, hq, hk2⟩ := am_ob_inv hk1
  obtain ⟨hci, hk3⟩ := am_bb_inv hk2
  cases am_beq hci
  have hk := hk3
  obtain ⟨x, hfx, hk⟩ := am_fl_inv hk
  have hk : am_cont p l e R s m args below meth c Q b0 b cI cB dC dI nL n0 z0 (_, L, x :: r, h) := hk
  unfold am_fld at hf
  split at hf
  next q hcl =>
    simp only [Bool.and_eq_true, decide_eq_true_eq] at hf
    obtain ⟨⟨hbn, hw⟩, hsm⟩ := hf
    have hbn := Nat.blt_eq.mp hbn
    obtain ⟨g1, g2, g3, -⟩ := am_cls _ _ hcl
    obtain ⟨C, T, N⟩ := q
    dsimp only at hsm hbn hw g1 g2 g3
    have hlk := am_hts hts hw rfl
    have hsame : ∀ x, s.fieldFound? (T b').1 (T b').2.1 (T b').2.2.1 = some x → s.fieldFound? C (T b').2.1 (T b').2.2.1 = some x := fun x hx => by rw [← hsm]; exact hx
    exact va_get hx hb hts g3 hown hK hP q0 (am_cw_get hq) hcl b' hbn hlk hsame (by rw [List.getElem?_map, hfx]; rfl) hd (hk.2 H locs ls cells slots ⟨hP, hS, hL⟩ hcells hslots)
  next => cases hf
set_option maxHeartbeats 1000000 in
theorem am_s_putf {E : am_I} (hc : am_ctx p s m args meth c b0 b cI cB dC dI cc own mnm nL n0 scr) (hroom : 1 ≤ R.frames ∧ 100 ≤ R.locals) (hrep : am_rep b0 b cI cB dC dI s nL H locs ls L h) (hcells : cells + n0 = h.length) (hslots : slots + z0 = am_szs h) {i : Nat} {nx tg a b' w : Nat} {v : Int32} {lv : Int64} {sw : List (Int32 × Nat)} (hE : E = (.putfield i, nx, tg, a, b', w, v, lv, sw)) (hok : am_ok1 mt own mnm cc nL ret pc E = true)
    (hk : am_K (am_step scr E L st h) (am_cont p l e R s m args below meth c Q b0 b cI cB dC dI nL n0 z0) Kr Kc) : W p l e R s m args below meth c H locs cells slots Q (F0 m pc ls (st.map (am_cv b0 b))) := by
  subst hE
  obtain ⟨hd0, hok⟩ := am_and hok
  have hd0 := of_decide_eq_true hd0
  obtain ⟨hx, hb, hml, hown, hts, hK, hmn, hb0, hsc⟩ := hc
  obtain ⟨hP, hS, hL⟩ := hrep
  obtain ⟨hok, hmd⟩ := am_and hok
  obtain ⟨hl, hf⟩ := am_and hok
  obtain ⟨e9, hd⟩ := am_dec hd0 hl
  subst e9
  obtain ⟨v0, r, rfl, hk0⟩ := am_v1_inv hk
  obtain ⟨q0, r, rfl, hk1⟩ := am_r1_inv hk0
  obtain ⟨ci, fs, hq, hk2⟩ := am_ob_inv hk1
  obtain ⟨hci, hk3⟩ := am_bb_inv hk2
  cases am_beq hci
  have hk := hk3
  obtain ⟨hbl, hk⟩ := am_bb_inv hk
  have hbl := Nat.blt_eq.mp hbl
  unfold am_fld at hf
  split at hf
  next q hcl =>
    simp only [Bool.and_eq_true, decide_eq_true_eq] at hf
    obtain ⟨⟨hbn, hw⟩, hsm⟩ := hf
    have hbn := Nat.blt_eq.mp hbn
    obtain ⟨g1, g2, g3, -⟩ := am_cls _ _ hcl
    obtain ⟨C, T, N⟩ := q
    dsimp only at hsm hbn hw g1 g2 g3
    have hlk := am_hts hts hw rfl
    have hsame : ∀ x, s.fieldFound? (T b').1 (T b').2.1 (T b').2.2.1 = some x → s.fieldFound? C (T b').2.1 (T b').2.2.1 = some x := fun x hx => by rw [← hsm]; exact hx
    have hfin0 : am_fin a b' = (T b').2.2.2 := by simp only [am_fin, hcl]
    have hown0 : am_own own a = decide (C = own) := by simp only [am_own, hcl]
    have hlen : b' < (fs.map (am_cv b0 b)).length := by simpa using hbl
    match tg, hmd, hk with
    | 0, hmd, hk =>
      simp only [Bool.and_eq_true, decide_eq_true_eq, Bool.not_eq_true', hfin0] at hmd
      obtain ⟨y, rfl, hk⟩ := am_vi_inv hk
      have hk : am_cont p l e R s m args below meth c Q b0 b cI cB dC dI nL n0 z0 (_, L, r, h.set q0 (.inr (a, fs.set b' (.int y)))) := hk
      exact va_put hx hb hts g3 (am_ty a) g1 g2 hown hK hP (am_cw_D h) hS q0 (am_cw_get hq) hcl b' hbn hlk hsame hmd.2 (g1 b' hbn) (by rw [hmd.1]; rfl) (by rw [hmd.1]; rfl) hlen hd (fun H1 locs1 hP1 hD1 hS1 => hk.2 H1 locs1 ls cells slots ⟨by rw [am_cw_set, Nat.zero_add]; simpa [am_ce, List.map_set, am_cv] using hP1, hS1, hL⟩ (by simpa using hcells) (hslots.trans (am_szs_setF hq).symm))
    | 1, hmd, hk =>
      simp only [Bool.and_eq_true, decide_eq_true_eq, Bool.not_eq_true', hfin0] at hmd
      obtain ⟨y, rfl, hk⟩ := am_vi_inv hk
      have hk : (y = 0 ∨ y = 1) ∧ am_cont p l e R s m args below meth c Q b0 b cI cB dC dI nL n0 z0 (_, L, r, h.set q0 (.inr (a, fs.set b' (.int y)))) := hk
      exact va_put hx hb hts g3 (am_ty a) g1 g2 hown hK hP (am_cw_D h) hS q0 (am_cw_get hq) hcl b' hbn hlk hsame hmd.2 (g1 b' hbn) (by rw [hmd.1]; rcases hk.1 with rfl | rfl <;> rfl) (by rw [hmd.1]; rcases hk.1 with rfl | rfl <;> rfl) hlen hd (fun H1 locs1 hP1 hD1 hS1 => hk.2.2 H1 locs1 ls cells slots ⟨by rw [am_cw_set, Nat.zero_add]; simpa [am_ce, List.map_set, am_cv] using hP1, hS1, hL⟩ (by simpa using hcells) (hslots.trans (am_szs_setF hq).symm))
    | t + 2, hmd, hk =>
      simp only [Bool.and_eq_true, decide_eq_true_eq, hfin0, hown0] at hmd
      obtain ⟨⟨⟨h1, h2⟩, h3⟩, h4⟩ := hmd
      obtain ⟨y, rfl, hk⟩ := am_vr_inv hk
      have hk : am_cont p l e R s m args below meth c Q b0 b cI cB dC dI nL n0 z0 (_, L, r, h.set q0 (.inr (a, fs.set b' (.ref y)))) := hk
      exact va_putF hx hb hts g3 (am_ty a) g1 g2 hown hK hP (am_cw_D h) hS q0 (am_cw_get hq) hcl b' hbn hlk hsame h1 ((hmn h3).trans h3) (hsm.trans h2) (g1 b' hbn) (by revert h4; cases am_ty a b' <;> simp [narrow, am_cv]) (by revert h4; cases am_ty a b' <;> simp [fits, am_cv]) hlen hd (fun H1 locs1 hP1 hD1 hS1 => hk.2 H1 locs1 ls cells slots ⟨by rw [am_cw_set, Nat.zero_add]; simpa [am_ce, List.map_set, am_cv] using hP1, hS1, hL⟩ (by simpa using hcells) (hslots.trans (am_szs_setF hq).symm))
  next => cases hf
set_option maxHeartbeats 1000000 in
theorem am_s_iald {E : am_I} (hc : am_ctx p s m args meth c b0 b cI cB dC dI cc own mnm nL n0 scr) (hroom : 1 ≤ R.frames ∧ 100 ≤ R.locals) (hrep : am_rep b0 b cI cB dC dI s nL H locs ls L h) (hcells : cells + n0 = h.length) (hslots : slots + z0 = am_szs h)  {nx tg a b' w : Nat} {v : Int32} {lv : Int64} {sw : List (Int32 × Nat)} (hE : E = (.iaload, nx, tg, a, b', w, v, lv, sw)) (hok : am_ok1 mt own mnm cc nL ret pc E = true)
    (hk : am_K (am_step scr E L st h) (am_cont p l e R s m args below meth c Q b0 b cI cB dC dI nL n0 z0) Kr Kc) : W p l e R s m args below meth c H locs cells slots Q (F0 m pc ls (st.map (am_cv b0 b))) := by
  subst hE
  obtain ⟨hd0, hok⟩ := am_and hok
  have hd0 := of_decide_eq_true hd0
  obtain ⟨hx, hb, hml, hown, hts, hK, hmn, hb0, hsc⟩ := hc
  obtain ⟨hP, hS, hL⟩ := hrep
  obtain ⟨e9, hd⟩ := am_dec hd0 hok
  subst e9
  obtain ⟨i, r, rfl, hk⟩ := am_i1_inv hk
  obtain ⟨v0, r, rfl, hk⟩ := am_v1_inv hk
  rcases am_il_inv hk with ⟨q, n, g, rfl, hq, h1, hk⟩ | ⟨x, n, g, rfl, hs, h1, hk⟩
  · exact va_iald hx hb hK hP q 0 (am_cw_get hq) rfl h1 hd (hk.2 H locs ls cells slots ⟨hP, hS, hL⟩ hcells hslots)
  · obtain ⟨hX, hlt⟩ := hsc _ _ hs
    exact va_sld hx hb hX (by omega) (Nat.not_le.mpr hlt) hS h1 hd (hk.2 H locs ls cells slots ⟨hP, hS, hL⟩ hcells hslots)
set_option maxHeartbeats 1000000 in
theorem am_s_bald {E : am_I} (hc : am_ctx p s m args meth c b0 b cI cB dC dI cc own mnm nL n0 scr) (hroom : 1 ≤ R.frames ∧ 100 ≤ R.locals) (hrep : am_rep b0 b cI cB dC dI s nL H locs ls L h) (hcells : cells + n0 = h.length) (hslots : slots + z0 = am_szs h)  {nx tg a b' w : Nat} {v : Int32} {lv : Int64} {sw : List (Int32 × Nat)} (hE : E = (.baload, nx, tg, a, b', w, v, lv, sw)) (hok : am_ok1 mt own mnm cc nL ret pc E = true)
    (hk : am_K (am_step scr E L st h) (am_cont p l e R s m args below meth c Q b0 b cI cB dC dI nL n0 z0) Kr Kc) : W p l e R s m args below meth c H locs cells slots Q (F0 m pc ls (st.map (am_cv b0 b))) := by
  subst hE
  obtain ⟨hd0, hok⟩ := am_and hok
  have hd0 := of_decide_eq_true hd0
  obtain ⟨hx, hb, hml, hown, hts, hK, hmn, hb0, hsc⟩ := hc
  obtain ⟨hP, hS, hL⟩ := hrep
  obtain ⟨e9, hd⟩ := am_dec hd0 hok
  subst e9
  obtain ⟨i, r, rfl, hk⟩ := am_i1_inv hk
  obtain ⟨q, r, rfl, hk⟩ := am_r1_inv hk
  obtain ⟨n, g, hq, hk⟩ := am_ar_inv hk
  have hk : vp_in i n ∧ am_cont p l e R s m args below meth c Q b0 b cI cB dC dI nL n0 z0 (_, L, .int (g i.toNatClampNeg) :: r, h) := hk
  exact va_zald hx hb hK hP q 1 (am_cw_get hq) rfl hk.1 hd (hk.2.2 H locs ls cells slots ⟨hP, hS, hL⟩ hcells hslots)
set_option maxHeartbeats 1000000 in
theorem am_s_iast {E : am_I} (hc : am_ctx p s m args meth c b0 b cI cB dC dI cc own mnm nL n0 scr) (hroom : 1 ≤ R.frames ∧ 100 ≤ R.locals) (hrep : am_rep b0 b cI cB dC dI s nL H locs ls L h) (hcells : cells + n0 = h.length) (hslots : slots + z0 = am_szs h)  {nx tg a b' w : Nat} {v : Int32} {lv : Int64} {sw : List (Int32 × Nat)} (hE : E = (.iastore, nx, tg, a, b', w, v, lv, sw)) (hok : am_ok1 mt own mnm cc nL ret pc E = true)
    (hk : am_K (am_step scr E L st h) (am_cont p l e R s m args below meth c Q b0 b cI cB dC dI nL n0 z0) Kr Kc) : W p l e R s m args below meth c H locs cells slots Q (F0 m pc ls (st.map (am_cv b0 b))) := by
  subst hE
  obtain ⟨hd0, hok⟩ := am_and hok
  have hd0 := of_decide_eq_true hd0
  obtain ⟨hx, hb, hml, hown, hts, hK, hmn, hb0, hsc⟩ := hc
  obtain ⟨hP, hS, hL⟩ := hrep
  obtain ⟨e9, hd⟩ := am_dec hd0 hok
  subst e9
  obtain ⟨i, x, r, rfl, hk⟩ := am_i2_inv hk
  obtain ⟨q0, r, rfl, hk⟩ := am_r1_inv hk
  obtain ⟨n, g, hq, hk⟩ := am_ar_inv hk
  have hk : vp_in i n ∧ am_cont p l e R s m args below meth c Q b0 b cI cB dC dI nL n0 z0 (_, L, r, h.set q0 (.inl (false, n, upd g i.toNatClampNeg x))) := hk
  exact va_iast hx hb hK hP (am_cw_D h) hS q0 0 (am_cw_get hq) rfl hk.1 hd (fun H1 locs1 hP1 hD1 hS1 => hk.2.2 H1 locs1 ls cells slots ⟨by rw [am_cw_set, Nat.zero_add]; simpa [am_ce, List.map_set, am_cv] using hP1, hS1, hL⟩ (by simpa using hcells) (hslots.trans (am_szs_setA hq).symm))
set_option maxHeartbeats 1000000 in
theorem am_s_bast {E : am_I} (hc : am_ctx p s m args meth c b0 b cI cB dC dI cc own mnm nL n0 scr) (hroom : 1 ≤ R.frames ∧ 100 ≤ R.locals) (hrep : am_rep b0 b cI cB dC dI s nL H locs ls L h) (hcells : cells + n0 = h.length) (hslots : slots + z0 = am_szs h)  {nx tg a b' w : Nat} {v : Int32} {lv : Int64} {sw : List (Int32 × Nat)} (hE : E = (.bastore, nx, tg, a, b', w, v, lv, sw)) (hok : am_ok1 mt own mnm cc nL ret pc E = true)
    (hk : am_K (am_step scr E L st h) (am_cont p l e R s m args below meth c Q b0 b cI cB dC dI nL n0 z0) Kr Kc) : W p l e R s m args below meth c H locs cells slots Q (F0 m pc ls (st.map (am_cv b0 b))) := by
  subst hE
  obtain ⟨hd0, hok⟩ := am_and hok
  have hd0 := of_decide_eq_true hd0
  obtain ⟨hx, hb, hml, hown, hts, hK, hmn, hb0, hsc⟩ := hc
  obtain ⟨hP, hS, hL⟩ := hrep
  obtain ⟨e9, hd⟩ := am_dec hd0 hok
  subst e9
  obtain ⟨i, x, r, rfl, hk⟩ := am_i2_inv hk
  obtain ⟨q0, r, rfl, hk⟩ := am_r1_inv hk
  obtain ⟨n, g, hq, hk⟩ := am_ar_inv hk
  have hk : vp_in i n ∧ am_cont p l e R s m args below meth c Q b0 b cI cB dC dI nL n0 z0 (_, L, r, h.set q0 (.inl (true, n, upd g i.toNatClampNeg (vp_nar .boolean x)))) := hk
  exact va_zast hx hb hK hP (am_cw_D h) hS q0 1 (am_cw_get hq) rfl hk.1 hd (fun H1 locs1 hP1 hD1 hS1 => hk.2.2 H1 locs1 ls cells slots ⟨by rw [am_cw_set, Nat.zero_add]; simpa [am_ce, List.map_set, am_cv] using hP1, hS1, hL⟩ (by simpa using hcells) (hslots.trans (am_szs_setA hq).symm))
set_option maxHeartbeats 1000000 in
theorem am_s_alen {E : am_I} (hc : am_ctx p s m args meth c b0 b cI cB dC dI cc own mnm nL n0 scr) (hroom : 1 ≤ R.frames ∧ 100 ≤ R.locals) (hrep : am_rep b0 b cI cB dC dI s nL H locs ls L h) (hcells : cells + n0 = h.length) (hslots : slots + z0 = am_szs h)  {nx tg a b' w : Nat} {v : Int32} {lv : Int64} {sw : List (Int32 × Nat)} (hE : E = (.arraylength, nx, tg, a, b', w, v, lv, sw)) (hok : am_ok1 mt own mnm cc nL ret pc E = true)
    (hk : am_K (am_step scr E L st h) (am_cont p l e R s m args below meth c Q b0 b cI cB dC dI nL n0 z0) Kr Kc) : W p l e R s m args below meth c H locs cells slots Q (F0 m pc ls (st.map (am_cv b0 b))) := by
  subst hE
  obtain ⟨hd0, hok⟩ := am_and hok
  have hd0 := of_decide_eq_true hd0
  obtain ⟨hx, hb, hml, hown, hts, hK, hmn, hb0, hsc⟩ := hc
  obtain ⟨hP, hS, hL⟩ := hrep
  obtain ⟨e9, hd⟩ := am_dec hd0 hok
  subst e9
  obtain ⟨v0, r, rfl, hk⟩ := am_v1_inv hk
  obtain ⟨x, n, g, rfl, hs, hk⟩ := am_sc_inv hk
  have hk : am_cont p l e R s m args below meth c Q b0 b cI cB dC dI nL n0 z0 (_, L, .int (Int32.ofNat n) :: r, h) := hk
  obtain ⟨hX, hlt⟩ := hsc _ _ hs
  exact va_slen hx hb hX (by omega) (Nat.not_le.mpr hlt) hS hd (hk.2 H locs ls cells slots ⟨hP, hS, hL⟩ hcells hslots)
set_option maxHeartbeats 1000000 in
theorem am_s_new {E : am_I} (hc : am_ctx p s m args meth c b0 b cI cB dC dI cc own mnm nL n0 scr) (hroom : 1 ≤ R.frames ∧ 100 ≤ R.locals) (hrep : am_rep b0 b cI cB dC dI s nL H locs ls L h) (hcells : cells + n0 = h.length) (hslots : slots + z0 = am_szs h) {i : Nat} {nx tg a b' w : Nat} {v : Int32} {lv : Int64} {sw : List (Int32 × Nat)} (hE : E = (.new i, nx, tg, a, b', w, v, lv, sw)) (hok : am_ok1 mt own mnm cc nL ret pc E = true)
    (hk : am_K (am_step scr E L st h) (am_cont p l e R s m args below meth c Q b0 b cI cB dC dI nL n0 z0) Kr Kc) : W p l e R s m args below meth c H locs cells slots Q (F0 m pc ls (st.map (am_cv b0 b))) := by
  subst hE
  obtain ⟨hd0, hok⟩ := am_and hok
  have hd0 := of_decide_eq_true hd0
  obtain ⟨hx, hb, hml, hown, hts, hK, hmn, hb0, hsc⟩ := hc
  obtain ⟨hP, hS, hL⟩ := hrep
  obtain ⟨hl, hf⟩ := am_and hok
  obtain ⟨e9, hd⟩ := am_dec hd0 hl
  subst e9
  split at hf
  next q hcl =>
    have hw := am_hts hts (of_decide_eq_true hf) rfl
    obtain ⟨g1, g2, g3, g4, g5, g6, g7⟩ := am_cls _ _ hcl
    obtain ⟨C, T, N⟩ := q
    dsimp only at hw g1 g2 g3 g4 g5 g6 g7
    have hk : am_cont p l e R s m args below meth c Q b0 b cI cB dC dI nL n0 z0 (_, L, .ref h.length :: st, h ++ [.inr (a, am_blank a)]) := hk
    have hroom2 := hk.1
    simp only [List.length_append, List.length_cons, List.length_nil, am_szs_push, am_sz, g7] at hroom2
    refine am_W_size hb0 hcells hP hS (fun hZ => ?_)
    have hKn := hK.1 a _ hcl
    refine W.newcK hx hb hown hw (hts _ g4) (hts _ g5) rfl hd (by omega) (by omega) hKn.2.1 rfl fun H1 kC hkC e1 z1 o1 => ?_
    have hkeep : ∀ (k : Nat) (x : Nat × va_E), (am_cw b0 b cI cB 0 h)[k]? = some x → H1[x.1]? = H[x.1]? := fun k x hx => o1 x.1 ((hP k x hx).lt)
    have hb9 := u_born (o := H.size) (H := H1) (am_ty a) hts g3 hKn hkC e1 g1
    have hP1 : va_P (dC, dI) vwCl (am_cw b0 b cI cB 0 (h ++ [.inr (a, am_blank a)])) H1 := by
      rw [am_cw_push]
      refine va_P.app (hP.kept hkeep) (fun k q hq => ?_)
      match k, hq with
      | 0, hq =>
        cases hq
        rw [Nat.zero_add, ← hZ]
        refine ⟨_, hcl, t_OB.to hb9 (fun j hj => ?_)⟩
        show defaultValue (am_ty a j) = vp_V ((am_blank a).map (am_cv b0 b)) j
        rw [g6 j hj]
        exact am_blank_map a j
      | k + 1, hq => simp at hq
    have hS1 : va_S (fun q => b0 ≤ q) s.heap H1 locs := ⟨by rw [z1]; exact Nat.le_succ_of_le hS.1, fun q h1 h2 => (o1 q (Nat.lt_of_lt_of_le h1 hS.1)).trans (hS.2.1 q h1 h2), hS.2.2⟩
    have := hk.2 H1 locs ls (cells + 1) (slots + N) ⟨hP1, hS1, hL⟩ (by simp; omega) (by rw [am_szs_push]; simp only [am_sz, g7]; omega)
    rw [hZ]
    exact this
  next => cases hf
set_option maxHeartbeats 1000000 in
theorem am_s_newa {E : am_I} (hc : am_ctx p s m args meth c b0 b cI cB dC dI cc own mnm nL n0 scr) (hroom : 1 ≤ R.frames ∧ 100 ≤ R.locals) (hrep : am_rep b0 b cI cB dC dI s nL H locs ls L h) (hcells : cells + n0 = h.length) (hslots : slots + z0 = am_szs h) {ty : ArrayType} {nx tg a b' w : Nat} {v : Int32} {lv : Int64} {sw : List (Int32 × Nat)} (hE : E = (.newarray ty, nx, tg, a, b', w, v, lv, sw)) (hok : am_ok1 mt own mnm cc nL ret pc E = true)
    (hk : am_K (am_step scr E L st h) (am_cont p l e R s m args below meth c Q b0 b cI cB dC dI nL n0 z0) Kr Kc) : W p l e R s m args below meth c H locs cells slots Q (F0 m pc ls (st.map (am_cv b0 b))) := by
  subst hE
  obtain ⟨hd0, hok⟩ := am_and hok
  have hd0 := of_decide_eq_true hd0
  obtain ⟨hx, hb, hml, hown, hts, hK, hmn, hb0, hsc⟩ := hc
  obtain ⟨hP, hS, hL⟩ := hrep
  obtain ⟨e9, hd⟩ := am_dec hd0 hok
  subst e9
  obtain ⟨n, r, rfl, hk⟩ := am_i1_inv hk
  cases ty with
  | int =>
    have hk : (n = nI b' ∧ b' ≤ 1000) ∧ am_cont p l e R s m args below meth c Q b0 b cI cB dC dI nL n0 z0 (_, L, .ref h.length :: r, h ++ [.inl (false, b', fun _ => 0)]) := hk
    obtain ⟨⟨e8, hn⟩, hk9⟩ := hk
    subst e8
    have hroom2 := hk9.1
    simp only [List.length_append, List.length_cons, List.length_nil, am_szs_push, am_sz] at hroom2
    refine am_W_size hb0 hcells hP hS (fun hZ => ?_)
    refine va_newaK hx hb (am_hts hts (i := 118) (by decide +kernel) rfl) rfl hd rfl (nI_pos (by omega)) (nI_clamp (by omega)) (Nat.le_trans (Nat.mul_le_mul hn (show componentBytes (newarray.typeOf .int) ≤ 8 by decide)) (by decide)) (by omega) (by omega) rfl fun H1 cA e1 z1 o1 hAr hNm => ?_
    have hkeep : ∀ (k : Nat) (x : Nat × va_E), (am_cw b0 b cI cB 0 h)[k]? = some x → H1[x.1]? = H[x.1]? := fun k x hx => o1 x.1 ((hP k x hx).lt)
    have hcA : cA = cI := by
      have h9 : s.vm.findClass _ = some cI := (hK.2 0 _ rfl).2
      exact Option.some.inj (hNm.symm.trans h9)
    have hP1 : va_P (dC, dI) vwCl (am_cw b0 b cI cB 0 (h ++ [.inl (false, b', fun _ => 0)])) H1 := by
      rw [am_cw_push]
      refine va_P.app (hP.kept hkeep) (fun k q hq => ?_)
      match k, hq with
      | 0, hq =>
        cases hq
        rw [Nat.zero_add, ← hZ]
        subst hcA
        exact e1
      | k + 1, hq => simp at hq
    have hS1 : va_S (fun q => b0 ≤ q) s.heap H1 locs := ⟨by rw [z1]; exact Nat.le_succ_of_le hS.1, fun q h1 h2 => (o1 q (Nat.lt_of_lt_of_le h1 hS.1)).trans (hS.2.1 q h1 h2), hS.2.2⟩
    have := hk9.2 H1 locs ls (cells + 1) (slots + b') ⟨hP1, hS1, hL⟩ (by simp; omega) (by rw [am_szs_push]; simp only [am_sz]; omega)
    rw [hZ]
    exact this
  | boolean =>
    have hk : (n = nI b' ∧ b' ≤ 1000) ∧ am_cont p l e R s m args below meth c Q b0 b cI cB dC dI nL n0 z0 (_, L, .ref h.length :: r, h ++ [.inl (true, b', fun _ => 0)]) := hk
    obtain ⟨⟨e8, hn⟩, hk9⟩ := hk
    subst e8
    have hroom2 := hk9.1
    simp only [List.length_append, List.length_cons, List.length_nil, am_szs_push, am_sz] at hroom2
    refine am_W_size hb0 hcells hP hS (fun hZ => ?_)
    refine va_newaK hx hb (am_hts hts (i := 957) (by decide +kernel) rfl) rfl hd rfl (nI_pos (by omega)) (nI_clamp (by omega)) (Nat.le_trans (Nat.mul_le_mul hn (show componentBytes (newarray.typeOf .boolean) ≤ 8 by decide)) (by decide)) (by omega) (by omega) rfl fun H1 cA e1 z1 o1 hAr hNm => ?_
    have hkeep : ∀ (k : Nat) (x : Nat × va_E), (am_cw b0 b cI cB 0 h)[k]? = some x → H1[x.1]? = H[x.1]? := fun k x hx => o1 x.1 ((hP k x hx).lt)
    have hcA : cA = cB := by
      have h9 : s.vm.findClass _ = some cB := (hK.2 1 _ rfl).2
      exact Option.some.inj (hNm.symm.trans h9)
    have hP1 : va_P (dC, dI) vwCl (am_cw b0 b cI cB 0 (h ++ [.inl (true, b', fun _ => 0)])) H1 := by
      rw [am_cw_push]
      refine va_P.app (hP.kept hkeep) (fun k q hq => ?_)
      match k, hq with
      | 0, hq =>
        cases hq
        rw [Nat.zero_add, ← hZ]
        subst hcA
        exact e1
      | k + 1, hq => simp at hq
    have hS1 : va_S (fun q => b0 ≤ q) s.heap H1 locs := ⟨by rw [z1]; exact Nat.le_succ_of_le hS.1, fun q h1 h2 => (o1 q (Nat.lt_of_lt_of_le h1 hS.1)).trans (hS.2.1 q h1 h2), hS.2.2⟩
    have := hk9.2 H1 locs ls (cells + 1) (slots + b') ⟨hP1, hS1, hL⟩ (by simp; omega) (by rw [am_szs_push]; simp only [am_sz]; omega)
    rw [hZ]
    exact this
  | _ => exact hk.elim
end
end
section
/-! calls, answers, runs: what my machine does, the JVM does -/
def am_up (h h' : am_H) : Prop := h.length ≤ h'.length ∧ am_szs h ≤ am_szs h'
def am_mo (h : am_H) (o : am_R) : Prop := match o with
  | .inl f => am_up h f.2.2.2
  | .inr (.inl (_, f, g)) => am_up h f.2.2.2 ∧ am_up h g.2.2.2
  | .inr (.inr (.inl (_, f))) => am_up h f.2.2.2
  | .inr (.inr (.inr (.inl (_, _)))) => True
  | .inr (.inr (.inr (.inr (.inl (_, _, _))))) => True
  | .inr (.inr (.inr (.inr (.inr _)))) => True
theorem am_up_rf (h : am_H) : am_up h h := ⟨Nat.le_refl _, Nat.le_refl _⟩
theorem am_up_tr {h h1 h2 : am_H} (a : am_up h h1) (b : am_up h1 h2) : am_up h h2 := ⟨Nat.le_trans a.1 b.1, Nat.le_trans a.2 b.2⟩
theorem am_up_push (h : am_H) (e : am_C) : am_up h (h ++ [e]) := ⟨by simp, by rw [am_szs_push]; omega⟩
theorem am_up_set {h : am_H} {q : Nat} {e e0 : am_C} (hq : h[q]? = some e0) (hz : am_sz e = am_sz e0) : am_up h (h.set q e) := ⟨by simp, Nat.le_of_eq (am_szs_set hz h q hq).symm⟩
section
variable {h : am_H}
theorem am_mo_no : am_mo h am_no := trivial
theorem am_mo_go {nx : Nat} {L : am_L} {st : List Value} : am_mo h (am_go nx L st h) := am_up_rf h
theorem am_mo_put {x : Option am_L} {nx : Nat} {st : List Value} : am_mo h (am_put x nx st h) := by
  cases x
  · trivial
  · exact am_up_rf h
theorem am_mo_ck {cd : Prop} {nx : Nat} {L : am_L} {st : List Value} : am_mo h (am_ck cd nx L st h) := am_up_rf h
theorem am_mo_rt {cd : Prop} {v : Option Value} : am_mo h (am_rt cd v) := trivial
theorem am_mo_cl {j : Nat} {as : List Value} {nx : Nat} {L : am_L} {st : List Value} : am_mo h (am_cl j as nx L st h) := trivial
theorem am_mo_icmp {cd : ClassFile.Cond} {x y : Int32} {a b : Nat} {L : am_L} {st : List Value} : am_mo h (am_icmp cd x y (a, L, st, h) (b, L, st, h)) := by
  cases cd <;> exact ⟨am_up_rf h, am_up_rf h⟩
theorem am_mo_if {cd : ClassFile.Cond} {x : Int32} {a b : Nat} {L : am_L} {st : List Value} : am_mo h (am_if cd x (a, L, st, h) (b, L, st, h)) := by
  cases cd <;> exact ⟨am_up_rf h, am_up_rf h⟩
theorem am_mo_i1 {st : List Value} {f : Int32 → List Value → am_R} (hf : ∀ x r, am_mo h (f x r)) : am_mo h (am_i1 st f) := by
  unfold am_i1
  split <;> first | exact hf _ _ | exact am_mo_no
theorem am_mo_i2 {st : List Value} {f : Int32 → Int32 → List Value → am_R} (hf : ∀ x y r, am_mo h (f x y r)) : am_mo h (am_i2 st f) := by
  unfold am_i2
  split <;> first | exact hf _ _ _ | exact am_mo_no
theorem am_mo_j1 {st : List Value} {f : Int64 → List Value → am_R} (hf : ∀ x r, am_mo h (f x r)) : am_mo h (am_j1 st f) := by
  unfold am_j1
  split <;> first | exact hf _ _ | exact am_mo_no
theorem am_mo_j2 {st : List Value} {f : Int64 → Int64 → List Value → am_R} (hf : ∀ x y r, am_mo h (f x y r)) : am_mo h (am_j2 st f) := by
  unfold am_j2
  split <;> first | exact hf _ _ _ | exact am_mo_no
theorem am_mo_r1 {st : List Value} {f : Nat → List Value → am_R} (hf : ∀ x r, am_mo h (f x r)) : am_mo h (am_r1 st f) := by
  unfold am_r1
  split <;> first | exact hf _ _ | exact am_mo_no
theorem am_mo_v1 {st : List Value} {f : Value → List Value → am_R} (hf : ∀ x r, am_mo h (f x r)) : am_mo h (am_v1 st f) := by
  unfold am_v1
  split <;> first | exact hf _ _ | exact am_mo_no
theorem am_mo_lo {L : am_L} {a : Nat} {f : Value → am_R} (hf : ∀ x, am_mo h (f x)) : am_mo h (am_lo L a f) := by
  unfold am_lo
  split <;> first | exact hf _ | exact am_mo_no
theorem am_mo_vi {v : Value} {f : Int32 → am_R} (hf : ∀ x, am_mo h (f x)) : am_mo h (am_vi v f) := by
  unfold am_vi
  split <;> first | exact hf _ | exact am_mo_no
theorem am_mo_vj {v : Value} {f : Int64 → am_R} (hf : ∀ x, am_mo h (f x)) : am_mo h (am_vj v f) := by
  unfold am_vj
  split <;> first | exact hf _ | exact am_mo_no
theorem am_mo_vr {v : Value} {f : Nat → am_R} (hf : ∀ x, am_mo h (f x)) : am_mo h (am_vr v f) := by
  unfold am_vr
  split <;> first | exact hf _ | exact am_mo_no
theorem am_mo_va {v : Value} {f : Value → am_R} (hf : ∀ x, am_mo h (f x)) : am_mo h (am_va v f) := by
  unfold am_va
  split <;> first | exact hf _ | exact am_mo_no
theorem am_mo_sc {v : Value} {scr : Option (Nat × (Nat → Int32))} {f : Nat → (Nat → Int32) → am_R} (hf : ∀ n g, am_mo h (f n g)) : am_mo h (am_sc v scr f) := by
  unfold am_sc
  split <;> first | exact hf _ _ | exact am_mo_no
theorem am_mo_pp {n : Nat} {st : List Value} {f : List Value → List Value → am_R} (hf : ∀ as r, am_mo h (f as r)) : am_mo h (am_pp n st f) := by
  unfold am_pp
  split <;> first | exact hf _ _ | exact am_mo_no
theorem am_mo_fl {fs : List Value} {k : Nat} {f : Value → am_R} (hf : ∀ x, am_mo h (f x)) : am_mo h (am_fl fs k f) := by
  unfold am_fl
  split <;> first | exact hf _ | exact am_mo_no
theorem am_mo_nil {st : List Value} {x : am_R} (hf : am_mo h x) : am_mo h (am_nil st x) := by
  unfold am_nil
  split <;> first | exact hf | exact am_mo_no
theorem am_mo_bb {z : Bool} {x : am_R} (hf : am_mo h x) : am_mo h (am_bb z x) := by
  unfold am_bb
  split <;> first | exact hf | exact am_mo_no
theorem am_mo_ob {q : Nat} {f : Nat → List Value → am_R} (hf : ∀ ci fs, h[q]? = some (.inr (ci, fs)) → am_mo h (f ci fs)) : am_mo h (am_ob h q f) := by
  unfold am_ob
  split
  next hq => exact hf _ _ hq
  next => exact am_mo_no
theorem am_mo_ar {z : Bool} {q : Nat} {f : Nat → (Nat → Int32) → am_R} (hf : ∀ n g, h[q]? = some (.inl (z, n, g)) → am_mo h (f n g)) : am_mo h (am_ar z h q f) := by
  unfold am_ar
  split
  next hq =>
    split
    · exact hf _ _ hq
    · exact hf _ _ hq
    · exact am_mo_no
  next => exact am_mo_no
theorem am_mo_pf {tg : Nat} {x : Value} {nx : Nat} {L : am_L} {r : List Value} {q ci : Nat} {fs : List Value} {b : Nat} (hq : h[q]? = some (.inr (ci, fs))) : am_mo h (am_pf tg x nx L r h q ci fs b) := by
  unfold am_pf
  split
  · exact am_mo_vi (fun y => am_up_set hq (by simp [am_sz]))
  · exact am_mo_vi (fun y => am_up_set hq (by simp [am_sz]))
  · exact am_mo_vr (fun y => am_up_set hq (by simp [am_sz]))
theorem am_mo_il {scr : Option (Nat × (Nat → Int32))} {i : Int32} {v : Value} {nx : Nat} {L : am_L} {r : List Value} : am_mo h (am_il scr i v nx L r h) := by
  unfold am_il
  split
  · exact am_mo_ar (fun n g _ => am_mo_ck)
  · exact am_mo_sc (fun n g => am_mo_ck)
theorem am_mo_na {ty : ArrayType} {n : Int32} {b nx : Nat} {L : am_L} {r : List Value} : am_mo h (am_na ty n b nx L r h) := by
  unfold am_na
  split
  · exact am_up_push h _
  · exact am_up_push h _
  · exact am_mo_no
theorem am_mo_mst {a b nx : Nat} {L : am_L} {st : List Value} : am_mo h (am_mst a b nx L st h) := by
  unfold am_mst
  split
  · exact am_mo_i2 (fun _ _ _ => am_mo_bb am_mo_go)
  · split
    · exact am_mo_i2 (fun _ _ _ => am_mo_bb am_mo_go)
    · exact am_mo_pp (fun _ _ => am_mo_bb am_mo_cl)
theorem am_mo_step (scr : Option (Nat × (Nat → Int32))) (E : am_I) (L : am_L) (st : List Value) : am_mo h (am_step scr E L st h) := by
  obtain ⟨ins, nx, tg, a, b, w, v, lv, sw⟩ := E
  cases ins with
  | iconst => exact am_mo_go
  | bipush => exact am_mo_go
  | sipush => exact am_mo_go
  | ldc => exact am_mo_go
  | ldc_w => exact am_mo_go
  | lconst => exact am_mo_go
  | ldc2_w => exact am_mo_go
  | goto => exact am_mo_go
  | iload => exact am_mo_lo (fun _ => am_mo_vi (fun _ => am_mo_go))
  | iload_n => exact am_mo_lo (fun _ => am_mo_vi (fun _ => am_mo_go))
  | lload => exact am_mo_lo (fun _ => am_mo_vj (fun _ => am_mo_go))
  | lload_n => exact am_mo_lo (fun _ => am_mo_vj (fun _ => am_mo_go))
  | aload => exact am_mo_lo (fun _ => am_mo_va (fun _ => am_mo_go))
  | aload_n => exact am_mo_lo (fun _ => am_mo_va (fun _ => am_mo_go))
  | istore => exact am_mo_i1 (fun _ _ => am_mo_put)
  | istore_n => exact am_mo_i1 (fun _ _ => am_mo_put)
  | astore => exact am_mo_r1 (fun _ _ => am_mo_put)
  | astore_n => exact am_mo_r1 (fun _ _ => am_mo_put)
  | lstore => exact am_mo_j1 (fun _ _ => am_mo_put)
  | lstore_n => exact am_mo_j1 (fun _ _ => am_mo_put)
  | iinc => exact am_mo_lo (fun _ => am_mo_vi (fun _ => am_mo_put))
  | iadd => exact am_mo_i2 (fun _ _ _ => am_mo_go)
  | isub => exact am_mo_i2 (fun _ _ _ => am_mo_go)
  | imul => exact am_mo_i2 (fun _ _ _ => am_mo_go)
  | iand => exact am_mo_i2 (fun _ _ _ => am_mo_go)
  | ior => exact am_mo_i2 (fun _ _ _ => am_mo_go)
  | ixor => exact am_mo_i2 (fun _ _ _ => am_mo_go)
  | ishl => exact am_mo_i2 (fun _ _ _ => am_mo_go)
  | ishr => exact am_mo_i2 (fun _ _ _ => am_mo_go)
  | iushr => exact am_mo_i2 (fun _ _ _ => am_mo_go)
  | idiv => exact am_mo_i2 (fun _ _ _ => am_mo_ck)
  | irem => exact am_mo_i2 (fun _ _ _ => am_mo_ck)
  | ladd => exact am_mo_j2 (fun _ _ _ => am_mo_go)
  | lmul => exact am_mo_j2 (fun _ _ _ => am_mo_go)
  | lcmp => exact am_mo_j2 (fun _ _ _ => am_mo_go)
  | lrem => exact am_mo_j2 (fun _ _ _ => am_mo_ck)
  | ineg => exact am_mo_i1 (fun _ _ => am_mo_go)
  | i2l => exact am_mo_i1 (fun _ _ => am_mo_go)
  | i2b => exact am_mo_i1 (fun _ _ => am_mo_go)
  | i2s => exact am_mo_i1 (fun _ _ => am_mo_go)
  | tableswitch => exact am_mo_i1 (fun _ _ => am_mo_go)
  | lookupswitch => exact am_mo_i1 (fun _ _ => am_mo_go)
  | l2i => exact am_mo_j1 (fun _ _ => am_mo_go)
  | dup => exact am_mo_v1 (fun _ _ => am_mo_bb am_mo_go)
  | pop => exact am_mo_v1 (fun _ _ => am_mo_bb am_mo_go)
  | dup2 => exact am_mo_v1 (fun _ _ => am_mo_v1 (fun _ _ => am_mo_bb (am_mo_bb am_mo_go)))
  | if_icmp => exact am_mo_i2 (fun _ _ _ => am_mo_icmp)
  | ifCond => exact am_mo_i1 (fun _ _ => am_mo_if)
  | getfield => exact am_mo_r1 (fun _ _ => am_mo_ob (fun _ _ _ => am_mo_bb (am_mo_fl (fun _ => am_mo_go))))
  | putfield => exact am_mo_v1 (fun _ _ => am_mo_r1 (fun _ _ => am_mo_ob (fun _ _ hq => am_mo_bb (am_mo_bb (am_mo_pf hq)))))
  | iaload => exact am_mo_i1 (fun _ _ => am_mo_v1 (fun _ _ => am_mo_il))
  | baload => exact am_mo_i1 (fun _ _ => am_mo_r1 (fun _ _ => am_mo_ar (fun _ _ _ => am_mo_ck)))
  | iastore => exact am_mo_i2 (fun _ _ _ => am_mo_r1 (fun _ _ => am_mo_ar (fun _ _ hq => am_up_set hq rfl)))
  | bastore => exact am_mo_i2 (fun _ _ _ => am_mo_r1 (fun _ _ => am_mo_ar (fun _ _ hq => am_up_set hq rfl)))
  | arraylength => exact am_mo_v1 (fun _ _ => am_mo_sc (fun _ _ => am_mo_go))
  | new => exact am_up_push h _
  | newarray => exact am_mo_i1 (fun _ _ => am_mo_na)
  | invokevirtual => exact am_mo_pp (fun _ _ => am_mo_r1 (fun _ _ => am_mo_ob (fun _ _ _ => am_mo_bb (am_mo_bb am_mo_cl))))
  | ireturn => exact am_mo_i1 (fun _ _ => am_mo_nil (by split <;> exact am_mo_rt))
  | areturn => exact am_mo_r1 (fun _ _ => am_mo_nil am_mo_rt)
  | return_ => exact am_mo_nil am_mo_rt
  | invokespecial i =>
    show am_mo h (match tg with
      | 2 => am_r1 st (fun _ r => am_bb (Nat.ble (am_cats r) 8) (am_go nx L r h))
      | _ => am_pp b st (fun as r => am_r1 r (fun q r => am_bb (Nat.ble (am_cats r) 8) (am_cl a (.ref q :: as) nx L r h))))
    split
    · exact am_mo_r1 (fun _ _ => am_mo_bb am_mo_go)
    · exact am_mo_pp (fun _ _ => am_mo_r1 (fun _ _ => am_mo_bb am_mo_cl))
  | invokestatic i =>
    show am_mo h (match tg with
      | 2 => am_i2 st (fun dp n r => am_r1 r (fun q1 r => am_i1 r (fun sp r => am_r1 r (fun q0 r => am_bb (Nat.ble (am_cats r) 8) (am_ar false h q0 (fun n0 f => am_ar false h q1 (fun n1 g => am_ck (¬ sp < 0 ∧ ¬ dp < 0 ∧ ¬ n < 0 ∧ sp.toNatClampNeg + n.toNatClampNeg ≤ n0 ∧ dp.toNatClampNeg + n.toNatClampNeg ≤ n1) nx L r (h.set q1 (.inl (false, n1, va_cpy f g sp.toNatClampNeg dp.toNatClampNeg n.toNatClampNeg))))))))))
      | _ => am_mst a b nx L st h)
    split
    · exact am_mo_i2 (fun _ _ _ => am_mo_r1 (fun _ _ => am_mo_i1 (fun _ _ => am_mo_r1 (fun _ _ => am_mo_bb (am_mo_ar (fun _ _ _ => am_mo_ar (fun _ _ hq => am_up_set hq rfl)))))))
    · exact am_mo_mst
  | _ => exact am_mo_no
end
theorem am_run_up {scr : Option (Nat × (Nat → Int32))} {C : Nat → List Value → am_H → Option Value → am_H → Prop} (hC : ∀ j as h w h1, C j as h w h1 → am_up h h1) {t : am_T} {v : Option Value} {h' : am_H} : ∀ (n : Nat) (f : am_F), am_run scr C t n f v h' → am_up f.2.2.2 h'
  | 0, f, hr => by cases hr
  | n + 1, f, hr => by
    unfold am_run at hr
    split at hr
    next => cases hr
    next E hE =>
      have hm := am_mo_step (h := f.2.2.2) scr E f.2.1 f.2.2.1
      revert hr hm
      generalize am_step scr E f.2.1 f.2.2.1 f.2.2.2 = o
      intro hr hm
      match o, hr, hm with
      | .inl g, hr, hm => exact am_up_tr hm (am_run_up hC n g hr)
      | .inr (.inl (cd, g, k)), hr, hm =>
        by_cases hc : cd
        · exact am_up_tr hm.1 (am_run_up hC n g (hr.1 hc))
        · exact am_up_tr hm.2 (am_run_up hC n k (hr.2 hc))
      | .inr (.inr (.inl (cd, g))), hr, hm => exact am_up_tr hm (am_run_up hC n g hr.2)
      | .inr (.inr (.inr (.inl (cd, w)))), hr, hm => rw [hr.2.2]; exact am_up_rf _
      | .inr (.inr (.inr (.inr (.inl (j, as, g))))), hr, hm =>
        obtain ⟨w, h1, hc, hr⟩ := hr
        exact am_up_tr (hC _ _ _ _ _ hc) (am_run_up hC n _ hr)
/-- what the methods do, by the depth of their calls -/
def am_ent (nL : Nat) (as : List Value) : am_L := let x := as.flatMap (fun v => if v.category = 2 then [some v, none] else [some v]); x ++ List.replicate (nL - x.length) none
def am_ev : Nat → Nat → List Value → am_H → Option Value → am_H → Prop
  | 0, _, _, _, _, _ => False
  | d + 1, j, as, h, v, h' => ∃ (M : am_M) (n : Nat), am_ms[j]? = some M ∧ (am_ent M.2.2.1 as).length = M.2.2.1 ∧ am_run none (am_ev d) M.2.2.2.2.2.2.2.2.2.2 n (0, am_ent M.2.2.1 as, [], h) v h'
theorem am_ev_up : ∀ (d j : Nat) (as : List Value) (h : am_H) (v : Option Value) (h' : am_H), am_ev d j as h v h' → am_up h h'
  | 0, _, _, _, _, _, hv => by cases hv
  | d + 1, j, as, h, v, h', hv => by
    obtain ⟨M, n, -, -, hr⟩ := hv
    exact am_run_up (am_ev_up d) n _ hr
end
section
/-! calls and answers -/
def am_Pc (b0 b : Nat) (cI cB : ClassId) (dC : Nat → ClassId) (dI : Nat → Nat → Nat) (as : List Value) (h : am_H) : Array Value → State → Prop := va_Pc (as.map (am_cv b0 b)) (fun U => U.heap.size = b0 + h.length ∧ va_P (dC, dI) vwCl (am_cw b0 b cI cB 0 h) U.heap ∧ va_K (dC, dI) vwCl [(cI, .int), (cB, .boolean)] U)
def am_Qc (b0 b : Nat) (cI cB : ClassId) (dC : Nat → ClassId) (dI : Nat → Nat → Nat) (w : Option Value) (h1 : am_H) : Array Value → State → Outcome → State → Prop := fun _ st oc t => oc = .returned (w.map (am_cv b0 b)) ∧ va_P (dC, dI) vwCl (am_cw b0 b cI cB 0 h1) t.heap ∧ va_F (fun q => b0 ≤ q) st t
def am_rm (d mc ms : Nat) : Room := { frames := d + 1, cells := mc, slots := ms, locals := 100 + 40 * d }
def am_wsM (M : am_M) : List Jvm.Cond := .code M.1 M.2.1 M.2.2.1 M.2.2.2.1 :: am_ws
def am_met (l : Launch) (b0 b : Nat) (cI cB : ClassId) (dC : Nat → ClassId) (dI : Nat → Nat → Nat) (d j : Nat) (as : List Value) (h : am_H) (w : Option Value) (h1 : am_H) : Prop :=
  am_up h h1 ∧ ∃ M : am_M, am_ms[j]? = some M ∧ Met l M.1 (am_wsM M) (am_rm d (h1.length - h.length) (am_szs h1 - am_szs h)) (am_Pc b0 b cI cB dC dI as h) (am_Qc b0 b cI cB dC dI w h1) (h1.length - h.length) (am_szs h1 - am_szs h) (fun q => b0 ≤ q)
theorem am_blind {b0 b : Nat} {cI cB : ClassId} {dC : Nat → ClassId} {dI : Nat → Nat → Nat} {as : List Value} {h : am_H} : FrameBlind (am_Pc b0 b cI cB dC dI as h) := fun a U g mk q => ⟨q.1, q.2.1, q.2.2.1, va_K.moved (u := U) (U := U.calling g mk a) (Vm.Alike.refl U.vm) q.2.2.2⟩
theorem am_hd_at {j : Nat} {M : am_M} (hM : am_ms[j]? = some M) : am_mt j = some (am_hd M) := by
  have hlt : j < (am_ms.map am_hd).length := by rw [List.length_map]; exact (List.getElem?_eq_some_iff.mp hM).1
  unfold am_mt
  rw [← am_ms_hs, List.getElem?_append_left hlt, List.getElem?_map, hM]
  rfl
theorem am_nonest {w : Nat} {own : String} {i : Nat} {y : MethodName} (h : lw_tbl[w]? = some (Jvm.Cond.methodLinkNest own i y "HoarseHill")) (hy : y.cls = "java/lang/Math") : False := by
  have h1 : lw_tbl.all (fun w => match w with
    | .methodLinkNest _ _ y _ => !(y.cls == "java/lang/Math")
    | _ => true) = true := by decide +kernel
  have h2 := List.all_eq_true.mp h1 _ (List.mem_of_getElem? h)
  simp [hy] at h2
section
variable {p : Program} {l : Launch} {e : Env} {R : Room} {s : State} {m : MethodId} {args : Array Value} {below : List Frame} {meth : Method} {c : Code} {Q : State → Prop}
variable {b0 b : Nat} {cI cB : ClassId} {dC : Nat → ClassId} {dI : Nat → Nat → Nat} {cc : ByteArray} {own mnm : String} {nL n0 z0 : Nat} {ret : Option FieldType} {scr : Option (Nat × (Nat → Int32))}
variable {H : Heap} {locs : List Loc} {ls : Array Slot} {cells slots pc d : Nat} {L : am_L} {st : List Value} {h : am_H} {Kr : Prop → Option Value → Prop}
theorem am_callw {w : Option Value} {h1 : am_H} {mc ms : Nat} {a : Array Value} {st0 r : List Value} (hr : va_Run p l e R s m args below meth c H locs cells slots mc ms (F0 m pc ls st0) (r.map (am_cv b0 b)) (am_Qc b0 b cI cB dC dI w h1 a) (fun q => b0 ≤ q)) (hS : va_S (fun q => b0 ≤ q) s.heap H locs)
    (kk : ∀ (H1 : Heap) (locs1 : List Loc), va_P (dC, dI) vwCl (am_cw b0 b cI cB 0 h1) H1 → va_S (fun q => b0 ≤ q) s.heap H1 locs1 → W p l e R s m args below meth c H1 locs1 (cells + mc) (slots + ms) Q (F0 m (pc + 3) ls ((w.toList ++ r).map (am_cv b0 b)))) : W p l e R s m args below meth c H locs cells slots Q (F0 m pc ls st0) := by
  intro T hT X
  obtain ⟨v, st₀, t, T', L, h0, X', hL, e1, e2, ⟨hv, hp, hz, hk⟩, st⟩ := hr T hT X
  cases hv
  rw [h0] at hz hk
  obtain ⟨t2, a1, b1⟩ := kk T'.heap (locs ++ L) (by rw [e1]; exact hp) ⟨Nat.le_trans hS.1 (by rw [e1]; exact hz), fun q h1 h2 => by rw [e1, hk q (Nat.lt_of_lt_of_le h1 hS.1) h2]; exact hS.2.1 q h1 h2, fun q hq => by
      rcases List.mem_append.mp hq with h | h
      · exact hS.2.2 q h
      · exact hL q h⟩ T' rfl X'
  refine ⟨t2, st t2 ?_, b1⟩
  have e9 : (w.map (am_cv b0 b)).toList ++ r.map (am_cv b0 b) = (w.toList ++ r).map (am_cv b0 b) := by cases w <;> simp
  show Steps p.tables e below (T'.setTop (F0 m (pc + 3) ls ((w.map (am_cv b0 b)).toList ++ r.map (am_cv b0 b)))) t2
  rw [e9]
  exact a1
/-- what a call needs of the tables, but for its own link -/
theorem am_callB {M : am_M} {j mc ms n : Nat} (hts : ∀ w ∈ am_ws, w.before args s = true) (hR : d + 2 ≤ R.frames ∧ 139 + 40 * d ≤ R.locals) (hM : am_ms[j]? = some M) (hn : M.2.2.2.2.2.2.2.2.2.1 = n) :
    ((am_rm d mc ms).cells = mc ∧ (am_rm d mc ms).slots = ms ∧ (am_rm d mc ms).frames + 1 ≤ R.frames ∧ 8 + (M.2.2.1 + 11) + (am_rm d mc ms).locals ≤ R.locals ∧ (∀ w ∈ am_wsM M, ∀ (a' : Array Value) (U : State), s.WarmedH U.vm → w.before a' U = true) ∧ Jvm.Cond.code M.1 M.2.1 M.2.2.1 M.2.2.2.1 ∈ am_wsM M) ∧
    (Jvm.Cond.code M.1 M.2.1 M.2.2.1 M.2.2.2.1).before args s = true ∧ (Jvm.Cond.initialized M.1.cls).before args s = true ∧ (M.1.cls ≠ "java/lang/invoke/MethodHandle" ∧ M.1.cls ≠ "java/lang/invoke/VarHandle") ∧ (∀ sig, parseMethodDescriptor M.1.desc = some sig → n = sig.parameters.length) ∧
    (M.2.2.2.2.1 = 0 → (Jvm.Cond.static M.1).before args s = true) ∧ (M.2.2.2.2.1 = 1 → (Jvm.Cond.instanceMethod M.1).before args s = true ∧ (Jvm.Cond.selects M.1.cls M.1 M.1).before args s = true) ∧ (M.2.2.2.2.1 = 2 → (Jvm.Cond.instanceMethod M.1).before args s = true ∧ M.1.name = "<init>" ∧ M.2.2.2.1 = none) := by
  have hOk := (am_ms_ok M (List.mem_of_getElem? hM)).1
  obtain ⟨y, c1, nL1, ret1, kd, w1, w2, w3, w4, n1, t1⟩ := M
  dsimp only at hn ⊢
  subst hn
  simp only [am_okH, Bool.and_eq_true, decide_eq_true_eq] at hOk
  obtain ⟨⟨⟨⟨⟨⟨⟨h1, h2⟩, h3⟩, h4⟩, h5⟩, h6⟩, h7⟩, h8⟩ := hOk
  have hc := am_hts hts h1 rfl
  have hn := Nat.le_of_ble_eq_true h8
  refine ⟨⟨rfl, rfl, hR.1, ?_, fun w hw => ?_, List.mem_cons_self⟩, hc, am_hts hts h2 rfl, ⟨h5, h6⟩, fun sig hs => ?_, fun hk => ?_, fun hk => ?_, fun hk => ?_⟩
  · show 8 + (nL1 + 11) + (100 + 40 * d) ≤ R.locals
    omega
  · rcases List.mem_cons.mp hw with rfl | hw
    · exact am_pay hts _ (am_in h1 rfl)
    · exact am_pay hts w hw
  · rw [hs] at h7
    exact (Option.some.inj h7).symm
  · subst hk
    exact am_hts hts (of_decide_eq_true h3) rfl
  · subst hk
    obtain ⟨g1, g2⟩ := am_and h3
    exact ⟨am_hts hts (of_decide_eq_true g1) rfl, am_hts hts (of_decide_eq_true g2) rfl⟩
  · subst hk
    obtain ⟨g1, g3⟩ := am_and h3
    obtain ⟨g1, g2⟩ := am_and g1
    exact ⟨am_hts hts (of_decide_eq_true g1) rfl, of_decide_eq_true g2, of_decide_eq_true g3⟩
set_option maxHeartbeats 1000000 in
theorem am_s_vir {E : am_I} (hc : am_ctx p s m args meth c b0 b cI cB dC dI cc own mnm nL n0 scr) (hR : d + 2 ≤ R.frames ∧ 139 + 40 * d ≤ R.locals) (hrep : am_rep b0 b cI cB dC dI s nL H locs ls L h) (hcells : cells + n0 = h.length) (hslots : slots + z0 = am_szs h) (hcap : h.length ≤ R.cells + n0 ∧ am_szs h ≤ R.slots + z0) {i nx tg a b' w : Nat} {v : Int32} {lv : Int64} {sw : List (Int32 × Nat)} (hE : E = (.invokevirtual i, nx, tg, a, b', w, v, lv, sw)) (hok : am_ok1 am_mt own mnm cc nL ret pc E = true)
    (hk : am_K (am_step scr E L st h) (am_cont p l e R s m args below meth c Q b0 b cI cB dC dI nL n0 z0) Kr (fun j as f => ∃ (w : Option Value) (h1 : am_H), am_met l b0 b cI cB dC dI d j as h w h1 ∧ am_cont p l e R s m args below meth c Q b0 b cI cB dC dI nL n0 z0 (f.1, f.2.1, w.toList ++ f.2.2.1, h1))) : W p l e R s m args below meth c H locs cells slots Q (F0 m pc ls (st.map (am_cv b0 b))) := by
  subst hE
  obtain ⟨hd0, hok⟩ := am_and hok
  have hd0 := of_decide_eq_true hd0
  obtain ⟨hx, hb, hml, hown, hts, hK, hmn, hb0, hsc⟩ := hc
  obtain ⟨hP, hS, hL⟩ := hrep
  obtain ⟨hok, hrcv⟩ := am_and hok
  obtain ⟨hl, hcal⟩ := am_and hok
  obtain ⟨e9, hd⟩ := am_dec hd0 hl
  subst e9
  obtain ⟨as, r, hpop, hk⟩ := am_pp_inv hk
  obtain ⟨q, r, rfl, hk⟩ := am_r1_inv hk
  obtain ⟨ci, fs, hq, hk2⟩ := am_ob_inv hk
  obtain ⟨hci, hk3⟩ := am_bb_inv hk2
  cases am_beq hci
  obtain ⟨hcat, hk⟩ := am_bb_inv hk3
  have hk : ∃ (w : Option Value) (h1 : am_H), am_met l b0 b cI cB dC dI d a (.ref q :: as) h w h1 ∧ am_cont p l e R s m args below meth c Q b0 b cI cB dC dI nL n0 z0 (pc + 3, L, w.toList ++ r, h1) := hk
  obtain ⟨v1, h1, ⟨hup, M, hM, hMet⟩, hkc⟩ := hk
  obtain ⟨xs, x1, x2, rfl⟩ := am_pop_eq _ _ _ _ _ hpop
  rw [List.append_nil] at x2
  subst x2
  have hh := am_hd_at hM
  unfold am_call at hcal
  rw [hh] at hcal
  simp only [am_hd, Bool.and_eq_true] at hcal
  obtain ⟨⟨g1, g2⟩, g3⟩ := hcal
  have g1 := am_beq g1
  have g2 := am_beq g2
  obtain ⟨⟨k1, k2, k3, k4, k5, k6⟩, k7, k8, k9, k10, k11, k12, k13⟩ := am_callB (mc := h1.length - h.length) (ms := am_szs h1 - am_szs h) hts hR hM g1
  have g3 := am_hts hts (of_decide_eq_true g3) rfl
  unfold am_rcv at hrcv
  rw [hh] at hrcv
  split at hrcv
  next y0 _ _ qq he hcl =>
    cases he
    have hrcv : M.1.cls = qq.1 := of_decide_eq_true hrcv
    obtain ⟨k11, k11b⟩ := k12 g2
    refine am_W_size hb0 hcells hP hS (fun hZ => ?_)
    refine am_callw (r := r) (va_runV (C := qq.1) (b := b0 + q) (As := as.map (am_cv b0 b)) (rest := r.map (am_cv b0 b)) (n := b') ⟨hx, hb, hml, hown, hts⟩ hMet ⟨⟨k1, k2, k3, k4, k5, k6, k7, k8, k9, k10, g3⟩, k11, by rw [← hrcv]; exact k11b⟩ ⟨am_blind, va_recv hK hP hcl (am_cw_get hq), fun U hU hW => ⟨rfl, by rw [hU]; exact hZ, by rw [hU]; exact hP, va_K.moved hW.alike hK⟩⟩ rfl (by rw [List.length_map]; exact x1) hL.1 (by simp [am_cv]) (lv_room (by rw [am_cats_eq]; exact Nat.le_of_ble_eq_true hcat)) hd ⟨by have := hkc.1.1; have := hup.1; dsimp only at *; omega, by have := hkc.1.2; have := hup.2; dsimp only at *; omega⟩) hS (fun H1 locs1 hP1 hS1 => hkc.2 H1 locs1 ls _ _ ⟨hP1, hS1, hL⟩ (by have := hup.1; dsimp only; omega) (by have := hup.2; dsimp only; omega))
  next => cases hrcv
set_option maxHeartbeats 1000000 in
theorem am_s_spe {E : am_I} (hc : am_ctx p s m args meth c b0 b cI cB dC dI cc own mnm nL n0 scr) (hR : d + 2 ≤ R.frames ∧ 139 + 40 * d ≤ R.locals) (hrep : am_rep b0 b cI cB dC dI s nL H locs ls L h) (hcells : cells + n0 = h.length) (hslots : slots + z0 = am_szs h) (hcap : h.length ≤ R.cells + n0 ∧ am_szs h ≤ R.slots + z0) {i nx tg a b' w : Nat} {v : Int32} {lv : Int64} {sw : List (Int32 × Nat)} (hE : E = (.invokespecial i, nx, tg, a, b', w, v, lv, sw)) (hok : am_ok1 am_mt own mnm cc nL ret pc E = true)
    (hk : am_K (am_step scr E L st h) (am_cont p l e R s m args below meth c Q b0 b cI cB dC dI nL n0 z0) Kr (fun j as f => ∃ (w : Option Value) (h1 : am_H), am_met l b0 b cI cB dC dI d j as h w h1 ∧ am_cont p l e R s m args below meth c Q b0 b cI cB dC dI nL n0 z0 (f.1, f.2.1, w.toList ++ f.2.2.1, h1))) : W p l e R s m args below meth c H locs cells slots Q (F0 m pc ls (st.map (am_cv b0 b))) := by
  subst hE
  obtain ⟨hd0, hok⟩ := am_and hok
  have hd0 := of_decide_eq_true hd0
  obtain ⟨hx, hb, hml, hown, hts, hK, hmn, hb0, hsc⟩ := hc
  obtain ⟨hP, hS, hL⟩ := hrep
  obtain ⟨hl, hok2⟩ := am_and hok
  obtain ⟨e9, hd⟩ := am_dec hd0 hl
  subst e9
  match tg, hok2, hk with
  | 0, hcal, hk =>
    obtain ⟨as, r, hpop, hk⟩ := am_pp_inv hk
    obtain ⟨q, r, rfl, hk⟩ := am_r1_inv hk
    obtain ⟨hcat, hk⟩ := am_bb_inv hk
    have hk : ∃ (w : Option Value) (h1 : am_H), am_met l b0 b cI cB dC dI d a (.ref q :: as) h w h1 ∧ am_cont p l e R s m args below meth c Q b0 b cI cB dC dI nL n0 z0 (pc + 3, L, w.toList ++ r, h1) := hk
    obtain ⟨v1, h1, ⟨hup, M, hM, hMet⟩, hkc⟩ := hk
    obtain ⟨xs, x1, x2, rfl⟩ := am_pop_eq _ _ _ _ _ hpop
    rw [List.append_nil] at x2
    subst x2
    have hh := am_hd_at hM
    unfold am_call at hcal
    rw [hh] at hcal
    simp only [am_hd, Bool.and_eq_true] at hcal
    obtain ⟨⟨g1, g2⟩, g3⟩ := hcal
    have g1 := am_beq g1
    have g2 := am_beq g2
    obtain ⟨⟨k1, k2, k3, k4, k5, k6⟩, k7, k8, k9, k10, k11, k12, k13⟩ := am_callB (mc := h1.length - h.length) (ms := am_szs h1 - am_szs h) hts hR hM g1
    have g3 := am_hts hts (of_decide_eq_true g3) rfl
    obtain ⟨k11, k12, k13⟩ := k13 g2
    rw [k13] at k6 k7
    refine am_W_size hb0 hcells hP hS (fun hZ => ?_)
    exact am_callw (r := r) (va_runI (b := b0 + q) (As := as.map (am_cv b0 b)) (rest := r.map (am_cv b0 b)) (n := b') ⟨hx, hb, hml, hown, hts⟩ hMet ⟨⟨k1, k2, k3, k4, k5, k6, k7, k8, k9, k10, g3⟩, k12, k11⟩ ⟨am_blind, fun U hU hW => ⟨rfl, by rw [hU]; exact hZ, by rw [hU]; exact hP, va_K.moved hW.alike hK⟩⟩ rfl (by rw [List.length_map]; exact x1) hL.1 (by simp [am_cv]) (lv_room (by rw [am_cats_eq]; exact Nat.le_of_ble_eq_true hcat)) hd ⟨by have := hkc.1.1; have := hup.1; dsimp only at *; omega, by have := hkc.1.2; have := hup.2; dsimp only at *; omega⟩) hS (fun H1 locs1 hP1 hS1 => hkc.2 H1 locs1 ls _ _ ⟨hP1, hS1, hL⟩ (by have := hup.1; dsimp only; omega) (by have := hup.2; dsimp only; omega))
  | 1, hcal, hk =>
    obtain ⟨as, r, hpop, hk⟩ := am_pp_inv hk
    obtain ⟨q, r, rfl, hk⟩ := am_r1_inv hk
    obtain ⟨hcat, hk⟩ := am_bb_inv hk
    have hk : ∃ (w : Option Value) (h1 : am_H), am_met l b0 b cI cB dC dI d a (.ref q :: as) h w h1 ∧ am_cont p l e R s m args below meth c Q b0 b cI cB dC dI nL n0 z0 (pc + 3, L, w.toList ++ r, h1) := hk
    obtain ⟨v1, h1, ⟨hup, M, hM, hMet⟩, hkc⟩ := hk
    obtain ⟨xs, x1, x2, rfl⟩ := am_pop_eq _ _ _ _ _ hpop
    rw [List.append_nil] at x2
    subst x2
    have hh := am_hd_at hM
    unfold am_call at hcal
    rw [hh] at hcal
    simp only [am_hd, Bool.and_eq_true] at hcal
    obtain ⟨⟨g1, g2⟩, g3⟩ := hcal
    have g1 := am_beq g1
    have g2 := am_beq g2
    obtain ⟨⟨k1, k2, k3, k4, k5, k6⟩, k7, k8, k9, k10, k11, k12, k13⟩ := am_callB (mc := h1.length - h.length) (ms := am_szs h1 - am_szs h) hts hR hM g1
    have g3 := am_hts hts (of_decide_eq_true g3) rfl
    obtain ⟨k11, k12, k13⟩ := k13 g2
    rw [k13] at k6 k7
    refine am_W_size hb0 hcells hP hS (fun hZ => ?_)
    exact am_callw (r := r) (va_runIN (host := "HoarseHill") (b := b0 + q) (As := as.map (am_cv b0 b)) (rest := r.map (am_cv b0 b)) (n := b') ⟨hx, hb, hml, hown, hts⟩ hMet ⟨⟨⟨k1, k2, k3, k4, k5, k6⟩, k7, k8, k9, k10, g3⟩, k12, k11⟩ ⟨am_blind, fun U hU hW => ⟨rfl, by rw [hU]; exact hZ, by rw [hU]; exact hP, va_K.moved hW.alike hK⟩⟩ rfl (by rw [List.length_map]; exact x1) hL.1 (by simp [am_cv]) (lv_room (by rw [am_cats_eq]; exact Nat.le_of_ble_eq_true hcat)) hd ⟨by have := hkc.1.1; have := hup.1; dsimp only at *; omega, by have := hkc.1.2; have := hup.2; dsimp only at *; omega⟩) hS (fun H1 locs1 hP1 hS1 => hkc.2 H1 locs1 ls _ _ ⟨hP1, hS1, hL⟩ (by have := hup.1; dsimp only; omega) (by have := hup.2; dsimp only; omega))
  | 2, hcal, hk =>
    obtain ⟨q, r, rfl, hk⟩ := am_r1_inv hk
    obtain ⟨hcat, hk⟩ := am_bb_inv hk
    have hcat : am_cats r ≤ 8 := Nat.le_of_ble_eq_true hcat
    have hk : am_cont p l e R s m args below meth c Q b0 b cI cB dC dI nL n0 z0 (pc + 3, L, r, h) := hk
    have hce := am_cats_eq b0 b r
    refine W.objInit hx hb hown (am_hts hts (of_decide_eq_true hcal) rfl) (am_hts hts (i := 100) (by decide +kernel) rfl) (am_hts hts (i := 101) (by decide +kernel) rfl) rfl (hL.1.trans hml.symm) rfl hd (by omega) (by show 2 * 0 + _ + 12 ≤ R.locals; omega) ?_
    exact hk.2 H locs ls cells slots ⟨hP, hS, hL⟩ hcells hslots
  | t + 3, hcal, hk =>
    obtain ⟨as, r, hpop, hk⟩ := am_pp_inv hk
    obtain ⟨q, r, rfl, hk⟩ := am_r1_inv hk
    obtain ⟨hcat, hk⟩ := am_bb_inv hk
    have hk : ∃ (w : Option Value) (h1 : am_H), am_met l b0 b cI cB dC dI d a (.ref q :: as) h w h1 ∧ am_cont p l e R s m args below meth c Q b0 b cI cB dC dI nL n0 z0 (pc + 3, L, w.toList ++ r, h1) := hk
    obtain ⟨v1, h1, ⟨hup, M, hM, hMet⟩, hkc⟩ := hk
    obtain ⟨xs, x1, x2, rfl⟩ := am_pop_eq _ _ _ _ _ hpop
    rw [List.append_nil] at x2
    subst x2
    have hh := am_hd_at hM
    unfold am_call at hcal
    rw [hh] at hcal
    simp only [am_hd, Bool.and_eq_true] at hcal
    obtain ⟨⟨g1, g2⟩, g3⟩ := hcal
    have g1 := am_beq g1
    have g2 := am_beq g2
    obtain ⟨⟨k1, k2, k3, k4, k5, k6⟩, k7, k8, k9, k10, k11, k12, k13⟩ := am_callB (mc := h1.length - h.length) (ms := am_szs h1 - am_szs h) hts hR hM g1
    have g3 := am_hts hts (of_decide_eq_true g3) rfl
    obtain ⟨k11, k12, k13⟩ := k13 g2
    rw [k13] at k6 k7
    refine am_W_size hb0 hcells hP hS (fun hZ => ?_)
    exact am_callw (r := r) (va_runI (b := b0 + q) (As := as.map (am_cv b0 b)) (rest := r.map (am_cv b0 b)) (n := b') ⟨hx, hb, hml, hown, hts⟩ hMet ⟨⟨k1, k2, k3, k4, k5, k6, k7, k8, k9, k10, g3⟩, k12, k11⟩ ⟨am_blind, fun U hU hW => ⟨rfl, by rw [hU]; exact hZ, by rw [hU]; exact hP, va_K.moved hW.alike hK⟩⟩ rfl (by rw [List.length_map]; exact x1) hL.1 (by simp [am_cv]) (lv_room (by rw [am_cats_eq]; exact Nat.le_of_ble_eq_true hcat)) hd ⟨by have := hkc.1.1; have := hup.1; dsimp only at *; omega, by have := hkc.1.2; have := hup.2; dsimp only at *; omega⟩) hS (fun H1 locs1 hP1 hS1 => hkc.2 H1 locs1 ls _ _ ⟨hP1, hS1, hL⟩ (by have := hup.1; dsimp only; omega) (by have := hup.2; dsimp only; omega))
set_option maxHeartbeats 1000000 in
theorem am_s_mst (hc : am_ctx p s m args meth c b0 b cI cB dC dI cc own mnm nL n0 scr) (hR : d + 2 ≤ R.frames ∧ 139 + 40 * d ≤ R.locals) (hrep : am_rep b0 b cI cB dC dI s nL H locs ls L h) (hcells : cells + n0 = h.length) (hslots : slots + z0 = am_szs h) (hcap : h.length ≤ R.cells + n0 ∧ am_szs h ≤ R.slots + z0) {i tg a b' w : Nat} (hd : decode cc pc = .ok (.invokestatic i, 3)) (hcal : am_call am_mt own i tg a b' w 0 false = true)
    (hk : am_K (am_mst a b' (pc + 3) L st h) (am_cont p l e R s m args below meth c Q b0 b cI cB dC dI nL n0 z0) Kr (fun j as f => ∃ (w : Option Value) (h1 : am_H), am_met l b0 b cI cB dC dI d j as h w h1 ∧ am_cont p l e R s m args below meth c Q b0 b cI cB dC dI nL n0 z0 (f.1, f.2.1, w.toList ++ f.2.2.1, h1))) : W p l e R s m args below meth c H locs cells slots Q (F0 m pc ls (st.map (am_cv b0 b))) := by
  obtain ⟨hx, hb, hml, hown, hts, hK, hmn, hb0, hsc⟩ := hc
  obtain ⟨hP, hS, hL⟩ := hrep
  unfold am_mst at hk
  split at hk
  next ha =>
    obtain ⟨x, y, r, rfl, hk⟩ := am_i2_inv hk
    obtain ⟨hcat, hk⟩ := am_bb_inv hk
    have hcat : am_cats r ≤ 8 := Nat.le_of_ble_eq_true hcat
    have hk : am_cont p l e R s m args below meth c Q b0 b cI cB dC dI nL n0 z0 (pc + 3, L, .int (if x < y then y else x) :: r, h) := hk
    have hce := am_cats_eq b0 b r
    have ha := am_beq ha
    rw [ha] at hcal
    unfold am_call at hcal
    rw [am_mt_max] at hcal
    simp only [Bool.and_eq_true] at hcal
    obtain ⟨-, g3⟩ := hcal
    have g3 := am_hts hts (of_decide_eq_true g3) rfl
    exact va_mmax hx hb (hml.trans hL.1.symm) hown g3 (am_hts hts (i := 770) (by decide +kernel) rfl) (am_hts hts (i := 92) (by decide +kernel) rfl) (am_hts hts (i := 771) (by decide +kernel) rfl) (by omega) (by omega) (by omega) (by omega) hd (hk.2 H locs ls cells slots ⟨hP, hS, hL⟩ hcells hslots)
  next =>
  split at hk
  next ha =>
    obtain ⟨x, y, r, rfl, hk⟩ := am_i2_inv hk
    obtain ⟨hcat, hk⟩ := am_bb_inv hk
    have hcat : am_cats r ≤ 8 := Nat.le_of_ble_eq_true hcat
    have hk : am_cont p l e R s m args below meth c Q b0 b cI cB dC dI nL n0 z0 (pc + 3, L, .int (if y < x then y else x) :: r, h) := hk
    have hce := am_cats_eq b0 b r
    have ha := am_beq ha
    rw [ha] at hcal
    unfold am_call at hcal
    rw [am_mt_min] at hcal
    simp only [Bool.and_eq_true] at hcal
    obtain ⟨-, g3⟩ := hcal
    have g3 := am_hts hts (of_decide_eq_true g3) rfl
    exact va_mmin hx hb (hml.trans hL.1.symm) hown g3 (am_hts hts (i := 519) (by decide +kernel) rfl) (am_hts hts (i := 92) (by decide +kernel) rfl) (am_hts hts (i := 520) (by decide +kernel) rfl) (by omega) (by omega) (by omega) (by omega) hd (hk.2 H locs ls cells slots ⟨hP, hS, hL⟩ hcells hslots)
  next =>
    obtain ⟨as, r, hpop, hk⟩ := am_pp_inv hk
    obtain ⟨hcat, hk⟩ := am_bb_inv hk
    have hk : ∃ (w : Option Value) (h1 : am_H), am_met l b0 b cI cB dC dI d a as h w h1 ∧ am_cont p l e R s m args below meth c Q b0 b cI cB dC dI nL n0 z0 (pc + 3, L, w.toList ++ r, h1) := hk
    obtain ⟨v1, h1, ⟨hup, M, hM, hMet⟩, hkc⟩ := hk
    obtain ⟨xs, x1, x2, rfl⟩ := am_pop_eq _ _ _ _ _ hpop
    rw [List.append_nil] at x2
    subst x2
    have hh := am_hd_at hM
    unfold am_call at hcal
    rw [hh] at hcal
    simp only [am_hd, Bool.and_eq_true] at hcal
    obtain ⟨⟨g1, g2⟩, g3⟩ := hcal
    have g1 := am_beq g1
    have g2 := am_beq g2
    obtain ⟨⟨k1, k2, k3, k4, k5, k6⟩, k7, k8, k9, k10, k11, k12, k13⟩ := am_callB (mc := h1.length - h.length) (ms := am_szs h1 - am_szs h) hts hR hM g1
    have g3 := am_hts hts (of_decide_eq_true g3) rfl
    have k11 := k11 g2
    refine am_W_size hb0 hcells hP hS (fun hZ => ?_)
    exact am_callw (r := r) (va_runS (As := as.map (am_cv b0 b)) (rest := r.map (am_cv b0 b)) (n := b') ⟨hx, hb, hml, hown, hts⟩ hMet ⟨⟨k1, k2, k3, k4, k5, k6, k7, k8, k9, k10, g3⟩, k11⟩ ⟨am_blind, fun U hU hW => ⟨rfl, by rw [hU]; exact hZ, by rw [hU]; exact hP, va_K.moved hW.alike hK⟩⟩ rfl (by rw [List.length_map]; exact x1) hL.1 (by simp) (lv_room (by rw [am_cats_eq]; exact Nat.le_of_ble_eq_true hcat)) hd ⟨by have := hkc.1.1; have := hup.1; dsimp only at *; omega, by have := hkc.1.2; have := hup.2; dsimp only at *; omega⟩) hS (fun H1 locs1 hP1 hS1 => hkc.2 H1 locs1 ls _ _ ⟨hP1, hS1, hL⟩ (by have := hup.1; dsimp only; omega) (by have := hup.2; dsimp only; omega))
set_option maxHeartbeats 1000000 in
theorem am_s_mstN (hc : am_ctx p s m args meth c b0 b cI cB dC dI cc own mnm nL n0 scr) (hR : d + 2 ≤ R.frames ∧ 139 + 40 * d ≤ R.locals) (hrep : am_rep b0 b cI cB dC dI s nL H locs ls L h) (hcells : cells + n0 = h.length) (hslots : slots + z0 = am_szs h) (hcap : h.length ≤ R.cells + n0 ∧ am_szs h ≤ R.slots + z0) {i tg a b' w : Nat} (hd : decode cc pc = .ok (.invokestatic i, 3)) (hcal : am_call am_mt own i tg a b' w 0 true = true)
    (hk : am_K (am_mst a b' (pc + 3) L st h) (am_cont p l e R s m args below meth c Q b0 b cI cB dC dI nL n0 z0) Kr (fun j as f => ∃ (w : Option Value) (h1 : am_H), am_met l b0 b cI cB dC dI d j as h w h1 ∧ am_cont p l e R s m args below meth c Q b0 b cI cB dC dI nL n0 z0 (f.1, f.2.1, w.toList ++ f.2.2.1, h1))) : W p l e R s m args below meth c H locs cells slots Q (F0 m pc ls (st.map (am_cv b0 b))) := by
  obtain ⟨hx, hb, hml, hown, hts, hK, hmn, hb0, hsc⟩ := hc
  obtain ⟨hP, hS, hL⟩ := hrep
  unfold am_mst at hk
  split at hk
  next ha =>
    rw [am_beq ha] at hcal
    exact absurd hcal (by unfold am_call; rw [am_mt_max]; simp only [Bool.and_eq_true, decide_eq_true_eq, not_and]; intro _ hw; exact am_nonest hw rfl)
  next =>
  split at hk
  next ha =>
    rw [am_beq ha] at hcal
    exact absurd hcal (by unfold am_call; rw [am_mt_min]; simp only [Bool.and_eq_true, decide_eq_true_eq, not_and]; intro _ hw; exact am_nonest hw rfl)
  next =>
    obtain ⟨as, r, hpop, hk⟩ := am_pp_inv hk
    obtain ⟨hcat, hk⟩ := am_bb_inv hk
    have hk : ∃ (w : Option Value) (h1 : am_H), am_met l b0 b cI cB dC dI d a as h w h1 ∧ am_cont p l e R s m args below meth c Q b0 b cI cB dC dI nL n0 z0 (pc + 3, L, w.toList ++ r, h1) := hk
    obtain ⟨v1, h1, ⟨hup, M, hM, hMet⟩, hkc⟩ := hk
    obtain ⟨xs, x1, x2, rfl⟩ := am_pop_eq _ _ _ _ _ hpop
    rw [List.append_nil] at x2
    subst x2
    have hh := am_hd_at hM
    unfold am_call at hcal
    rw [hh] at hcal
    simp only [am_hd, Bool.and_eq_true] at hcal
    obtain ⟨⟨g1, g2⟩, g3⟩ := hcal
    have g1 := am_beq g1
    have g2 := am_beq g2
    obtain ⟨⟨k1, k2, k3, k4, k5, k6⟩, k7, k8, k9, k10, k11, k12, k13⟩ := am_callB (mc := h1.length - h.length) (ms := am_szs h1 - am_szs h) hts hR hM g1
    have g3 := am_hts hts (of_decide_eq_true g3) rfl
    have k11 := k11 g2
    refine am_W_size hb0 hcells hP hS (fun hZ => ?_)
    exact am_callw (r := r) (va_runSN (host := "HoarseHill") (As := as.map (am_cv b0 b)) (rest := r.map (am_cv b0 b)) (n := b') ⟨hx, hb, hml, hown, hts⟩ hMet ⟨⟨⟨k1, k2, k3, k4, k5, k6⟩, k7, k8, k9, k10, g3⟩, k11, trivial⟩ ⟨am_blind, fun U hU hW => ⟨rfl, by rw [hU]; exact hZ, by rw [hU]; exact hP, va_K.moved hW.alike hK⟩⟩ rfl (by rw [List.length_map]; exact x1) hL.1 (by simp) (lv_room (by rw [am_cats_eq]; exact Nat.le_of_ble_eq_true hcat)) hd ⟨by have := hkc.1.1; have := hup.1; dsimp only at *; omega, by have := hkc.1.2; have := hup.2; dsimp only at *; omega⟩) hS (fun H1 locs1 hP1 hS1 => hkc.2 H1 locs1 ls _ _ ⟨hP1, hS1, hL⟩ (by have := hup.1; dsimp only; omega) (by have := hup.2; dsimp only; omega))
set_option maxHeartbeats 1000000 in
theorem am_s_sta {E : am_I} (hc : am_ctx p s m args meth c b0 b cI cB dC dI cc own mnm nL n0 scr) (hR : d + 2 ≤ R.frames ∧ 139 + 40 * d ≤ R.locals) (hrep : am_rep b0 b cI cB dC dI s nL H locs ls L h) (hcells : cells + n0 = h.length) (hslots : slots + z0 = am_szs h) (hcap : h.length ≤ R.cells + n0 ∧ am_szs h ≤ R.slots + z0) {i nx tg a b' w : Nat} {v : Int32} {lv : Int64} {sw : List (Int32 × Nat)} (hE : E = (.invokestatic i, nx, tg, a, b', w, v, lv, sw)) (hok : am_ok1 am_mt own mnm cc nL ret pc E = true)
    (hk : am_K (am_step scr E L st h) (am_cont p l e R s m args below meth c Q b0 b cI cB dC dI nL n0 z0) Kr (fun j as f => ∃ (w : Option Value) (h1 : am_H), am_met l b0 b cI cB dC dI d j as h w h1 ∧ am_cont p l e R s m args below meth c Q b0 b cI cB dC dI nL n0 z0 (f.1, f.2.1, w.toList ++ f.2.2.1, h1))) : W p l e R s m args below meth c H locs cells slots Q (F0 m pc ls (st.map (am_cv b0 b))) := by
  subst hE
  obtain ⟨hd0, hok⟩ := am_and hok
  have hd0 := of_decide_eq_true hd0
  obtain ⟨hx, hb, hml, hown, hts, hK, hmn, hb0, hsc⟩ := hc
  obtain ⟨hP, hS, hL⟩ := hrep
  obtain ⟨hl, hok2⟩ := am_and hok
  obtain ⟨e9, hd⟩ := am_dec hd0 hl
  subst e9
  match tg, hok2, hk with
  | 0, hcal, hk => exact am_s_mst ⟨hx, hb, hml, hown, hts, hK, hmn, hb0, hsc⟩ hR ⟨hP, hS, hL⟩ hcells hslots hcap hd hcal hk
  | 1, hcal, hk => exact am_s_mstN ⟨hx, hb, hml, hown, hts, hK, hmn, hb0, hsc⟩ hR ⟨hP, hS, hL⟩ hcells hslots hcap hd hcal hk
  | t + 3, hcal, hk => exact am_s_mst ⟨hx, hb, hml, hown, hts, hK, hmn, hb0, hsc⟩ hR ⟨hP, hS, hL⟩ hcells hslots hcap hd hcal hk
  | 2, hcal, hk =>
    obtain ⟨dp, n, r, rfl, hk⟩ := am_i2_inv hk
    obtain ⟨q1, r, rfl, hk⟩ := am_r1_inv hk
    obtain ⟨sp, r, rfl, hk⟩ := am_i1_inv hk
    obtain ⟨q2, r, rfl, hk⟩ := am_r1_inv hk
    obtain ⟨hcat, hk⟩ := am_bb_inv hk
    have hcat : am_cats r ≤ 8 := Nat.le_of_ble_eq_true hcat
    obtain ⟨m0, f, hq2, hk⟩ := am_ar_inv hk
    obtain ⟨m1, g, hq, hk⟩ := am_ar_inv hk
    have hk : (¬ sp < 0 ∧ ¬ dp < 0 ∧ ¬ n < 0 ∧ sp.toNatClampNeg + n.toNatClampNeg ≤ m0 ∧ dp.toNatClampNeg + n.toNatClampNeg ≤ m1) ∧ am_cont p l e R s m args below meth c Q b0 b cI cB dC dI nL n0 z0 (pc + 3, L, r, h.set q1 (.inl (false, m1, va_cpy f g sp.toNatClampNeg dp.toNatClampNeg n.toNatClampNeg))) := hk
    obtain ⟨⟨j1, j2, j3, j4, j5⟩, hk⟩ := hk
    have hce := am_cats_eq b0 b r
    have hnf : nativeFrameWords "java/lang/System" "arraycopy" 5 ≤ 60 := by decide +kernel
    exact va_copyi (ty := .int) hx hb (hml.trans hL.1.symm) hown (am_hts hts (of_decide_eq_true hcal) rfl) (am_hts hts (i := 396) (by decide +kernel) rfl) (am_hts hts (i := 395) (by decide +kernel) rfl) (am_hts hts (i := 91) (by decide +kernel) rfl) hK hP (am_cw_D h) hS q2 q1 0 0 (am_cw_get hq2) (am_cw_get hq) rfl rfl rfl j1 j2 j3 j4 j5 (fun _ _ => rfl) (by omega) (by omega) hd (fun H1 locs1 hP1 hD1 hS1 => hk.2 H1 locs1 ls cells slots ⟨by rw [am_cw_set, Nat.zero_add]; simpa [am_ce, am_cv] using hP1, hS1, hL⟩ (by simpa using hcells) (hslots.trans (am_szs_setA hq).symm))
end
end
section
/-! runs: what my machine does in a method, the JVM does; the contracts of all methods -/
def am_retAt (cc : ByteArray) (ret : Option FieldType) (pc : Nat) (w : Option Value) : Prop :=
  (∃ x : Int32, w = some (.int x) ∧ decode cc pc = .ok (.ireturn, 1) ∧ (ret = some .int ∨ ret = some .boolean ∧ (x = 0 ∨ x = 1))) ∨ (∃ (q : Nat) (C : String), w = some (.ref q) ∧ decode cc pc = .ok (.areturn, 1) ∧ ret = some (.object C)) ∨ (w = none ∧ decode cc pc = .ok (.return_, 1) ∧ ret = none)
theorem am_K_map {o : am_R} {K K' : am_F → Prop} {Kr Kr' : Prop → Option Value → Prop} {Kc Kc' : Nat → List Value → am_F → Prop} (h : am_K o K Kr Kc) (h1 : ∀ f, K f → K' f) (h2 : ∀ c w, Kr c w → Kr' c w) (h3 : ∀ j as f, Kc j as f → Kc' j as f) : am_K o K' Kr' Kc' := by
  match o, h with
  | .inl f, h => exact h1 f h
  | .inr (.inl (c, f, g)), h => exact ⟨fun hc => h1 f (h.1 hc), fun hc => h1 g (h.2 hc)⟩
  | .inr (.inr (.inl (c, f))), h => exact ⟨h.1, h1 f h.2⟩
  | .inr (.inr (.inr (.inl (c, w)))), h => exact h2 c w h
  | .inr (.inr (.inr (.inr (.inl (j, as, f))))), h => exact h3 j as f h
section
variable {p : Program} {l : Launch} {e : Env} {R : Room} {s : State} {m : MethodId} {args : Array Value} {below : List Frame} {meth : Method} {c : Code} {Q : State → Prop}
variable {b0 b : Nat} {cI cB : ClassId} {dC : Nat → ClassId} {dI : Nat → Nat → Nat} {cc : ByteArray} {own mnm : String} {nL n0 z0 : Nat} {ret : Option FieldType} {scr : Option (Nat × (Nat → Int32))}
set_option maxHeartbeats 4000000 in
theorem am_one {H : Heap} {locs : List Loc} {ls : Array Slot} {cells slots pc d : Nat} {L : am_L} {st : List Value} {h : am_H} {E : am_I} {Kf : Option Value → Prop} (hc : am_ctx p s m args meth c b0 b cI cB dC dI cc own mnm nL n0 scr) (hR : d + 2 ≤ R.frames ∧ 139 + 40 * d ≤ R.locals) (hrep : am_rep b0 b cI cB dC dI s nL H locs ls L h) (hcells : cells + n0 = h.length) (hslots : slots + z0 = am_szs h) (hcap : h.length ≤ R.cells + n0 ∧ am_szs h ≤ R.slots + z0) (hok : am_ok1 am_mt own mnm cc nL ret pc E = true)
    (hret : ∀ w, am_retAt cc ret pc w → Kf w → W p l e R s m args below meth c H locs cells slots Q (F0 m pc ls (w.toList.map (am_cv b0 b))))
    (hk : am_K (am_step scr E L st h) (am_cont p l e R s m args below meth c Q b0 b cI cB dC dI nL n0 z0) (fun c w => c ∧ Kf w) (fun j as f => ∃ (w : Option Value) (h1 : am_H), am_met l b0 b cI cB dC dI d j as h w h1 ∧ am_cont p l e R s m args below meth c Q b0 b cI cB dC dI nL n0 z0 (f.1, f.2.1, w.toList ++ f.2.2.1, h1))) : W p l e R s m args below meth c H locs cells slots Q (F0 m pc ls (st.map (am_cv b0 b))) := by
  have hroom : 1 ≤ R.frames ∧ 100 ≤ R.locals := ⟨by omega, by omega⟩
  obtain ⟨ins, nx, tg, a, b', w, v, lv, sw⟩ := E
  cases ins with
  | iconst => exact am_s_iconst hc hroom hrep hcells hslots rfl hok hk
  | bipush => exact am_s_bipush hc hroom hrep hcells hslots rfl hok hk
  | sipush => exact am_s_sipush hc hroom hrep hcells hslots rfl hok hk
  | lconst => exact am_s_lconst hc hroom hrep hcells hslots rfl hok hk
  | ldc => exact am_s_ldc hc hroom hrep hcells hslots rfl hok hk
  | ldc_w => exact am_s_ldc_w hc hroom hrep hcells hslots rfl hok hk
  | ldc2_w => exact am_s_ldc2_w hc hroom hrep hcells hslots rfl hok hk
  | iload => exact am_s_iload hc hroom hrep hcells hslots rfl hok hk
  | iload_n => exact am_s_iload_n hc hroom hrep hcells hslots rfl hok hk
  | lload => exact am_s_lload hc hroom hrep hcells hslots rfl hok hk
  | lload_n => exact am_s_lload_n hc hroom hrep hcells hslots rfl hok hk
  | aload => exact am_s_aload hc hroom hrep hcells hslots rfl hok hk
  | aload_n => exact am_s_aload_n hc hroom hrep hcells hslots rfl hok hk
  | istore => exact am_s_istore hc hroom hrep hcells hslots rfl hok hk
  | istore_n => exact am_s_istore_n hc hroom hrep hcells hslots rfl hok hk
  | astore => exact am_s_astore hc hroom hrep hcells hslots rfl hok hk
  | astore_n => exact am_s_astore_n hc hroom hrep hcells hslots rfl hok hk
  | lstore => exact am_s_lstore hc hroom hrep hcells hslots rfl hok hk
  | lstore_n => exact am_s_lstore_n hc hroom hrep hcells hslots rfl hok hk
  | iinc => exact am_s_iinc hc hroom hrep hcells hslots rfl hok hk
  | iadd => exact am_s_iadd hc hroom hrep hcells hslots rfl hok hk
  | isub => exact am_s_isub hc hroom hrep hcells hslots rfl hok hk
  | imul => exact am_s_imul hc hroom hrep hcells hslots rfl hok hk
  | iand => exact am_s_iand hc hroom hrep hcells hslots rfl hok hk
  | ior => exact am_s_ior hc hroom hrep hcells hslots rfl hok hk
  | ixor => exact am_s_ixor hc hroom hrep hcells hslots rfl hok hk
  | ishl => exact am_s_ishl hc hroom hrep hcells hslots rfl hok hk
  | ishr => exact am_s_ishr hc hroom hrep hcells hslots rfl hok hk
  | iushr => exact am_s_iushr hc hroom hrep hcells hslots rfl hok hk
  | idiv => exact am_s_idiv hc hroom hrep hcells hslots rfl hok hk
  | irem => exact am_s_irem hc hroom hrep hcells hslots rfl hok hk
  | ladd => exact am_s_ladd hc hroom hrep hcells hslots rfl hok hk
  | lmul => exact am_s_lmul hc hroom hrep hcells hslots rfl hok hk
  | lrem => exact am_s_lrem hc hroom hrep hcells hslots rfl hok hk
  | lcmp => exact am_s_lcmp hc hroom hrep hcells hslots rfl hok hk
  | ineg => exact am_s_ineg hc hroom hrep hcells hslots rfl hok hk
  | i2l => exact am_s_i2l hc hroom hrep hcells hslots rfl hok hk
  | l2i => exact am_s_l2i hc hroom hrep hcells hslots rfl hok hk
  | i2b => exact am_s_i2b hc hroom hrep hcells hslots rfl hok hk
  | i2s => exact am_s_i2s hc hroom hrep hcells hslots rfl hok hk
  | dup => exact am_s_dup hc hroom hrep hcells hslots rfl hok hk
  | dup2 => exact am_s_dup2 hc hroom hrep hcells hslots rfl hok hk
  | pop => exact am_s_pop hc hroom hrep hcells hslots rfl hok hk
  | goto => exact am_s_goto hc hroom hrep hcells hslots rfl hok hk
  | if_icmp => exact am_s_icmp hc hroom hrep hcells hslots rfl hok hk
  | ifCond => exact am_s_ifc hc hroom hrep hcells hslots rfl hok hk
  | tableswitch => exact am_s_tsw hc hroom hrep hcells hslots rfl hok hk
  | lookupswitch => exact am_s_lsw hc hroom hrep hcells hslots rfl hok hk
  | getfield => exact am_s_getf hc hroom hrep hcells hslots rfl hok hk
  | putfield => exact am_s_putf hc hroom hrep hcells hslots rfl hok hk
  | iaload => exact am_s_iald hc hroom hrep hcells hslots rfl hok hk
  | baload => exact am_s_bald hc hroom hrep hcells hslots rfl hok hk
  | iastore => exact am_s_iast hc hroom hrep hcells hslots rfl hok hk
  | bastore => exact am_s_bast hc hroom hrep hcells hslots rfl hok hk
  | arraylength => exact am_s_alen hc hroom hrep hcells hslots rfl hok hk
  | new => exact am_s_new hc hroom hrep hcells hslots rfl hok hk
  | newarray => exact am_s_newa hc hroom hrep hcells hslots rfl hok hk
  | invokevirtual i => exact am_s_vir hc hR hrep hcells hslots hcap rfl hok hk
  | invokespecial i => exact am_s_spe hc hR hrep hcells hslots hcap rfl hok hk
  | invokestatic i => exact am_s_sta hc hR hrep hcells hslots hcap rfl hok hk
  | ireturn =>
    obtain ⟨hd0, hok1⟩ := am_and hok
    have hd0 := of_decide_eq_true hd0
    obtain ⟨hl, hm⟩ := am_and hok1
    obtain ⟨e9, hd⟩ := am_dec hd0 hl
    obtain ⟨x, r, rfl, hk1⟩ := am_i1_inv hk
    obtain ⟨rfl, hk2⟩ := am_nil_inv hk1
    match tg, hm, hk2 with
    | 0, hm, hk2 => exact hret _ (Or.inl ⟨x, rfl, hd, Or.inl (of_decide_eq_true hm)⟩) hk2.2
    | t + 1, hm, hk2 => exact hret _ (Or.inl ⟨x, rfl, hd, Or.inr ⟨of_decide_eq_true hm, hk2.1⟩⟩) hk2.2
  | areturn =>
    obtain ⟨hd0, hok1⟩ := am_and hok
    have hd0 := of_decide_eq_true hd0
    obtain ⟨hl, hm⟩ := am_and hok1
    obtain ⟨e9, hd⟩ := am_dec hd0 hl
    obtain ⟨x, r, rfl, hk1⟩ := am_r1_inv hk
    obtain ⟨rfl, hk2⟩ := am_nil_inv hk1
    match ret, hret, hm with
    | some (.object C), hret, hm => exact hret _ (Or.inr (Or.inl ⟨x, C, rfl, hd, rfl⟩)) hk2.2
  | return_ =>
    obtain ⟨hd0, hok1⟩ := am_and hok
    have hd0 := of_decide_eq_true hd0
    obtain ⟨hl, hm⟩ := am_and hok1
    obtain ⟨e9, hd⟩ := am_dec hd0 hl
    obtain ⟨rfl, hk2⟩ := am_nil_inv hk
    exact hret _ (Or.inr (Or.inr ⟨rfl, hd, of_decide_eq_true hm⟩)) hk2.2
  | _ => exact hk.elim
theorem am_run_sound {d : Nat} (hc : am_ctx p s m args meth c b0 b cI cB dC dI cc own mnm nL n0 scr) (hR : d + 2 ≤ R.frames ∧ 139 + 40 * d ≤ R.locals) {C : Nat → List Value → am_H → Option Value → am_H → Prop} (hC : ∀ j as h w h1, C j as h w h1 → am_met l b0 b cI cB dC dI d j as h w h1) {t : am_T} (ht : am_okT (am_ok1 am_mt own mnm cc nL ret) 0 t = true) {v : Option Value} {h' : am_H} (hN : h'.length ≤ R.cells + n0 ∧ am_szs h' ≤ R.slots + z0)
    (hret : ∀ (pc : Nat) (H : Heap) (locs : List Loc) (ls : Array Slot) (cells slots : Nat) (L : am_L), am_rep b0 b cI cB dC dI s nL H locs ls L h' → cells + n0 = h'.length → slots + z0 = am_szs h' → am_retAt cc ret pc v → W p l e R s m args below meth c H locs cells slots Q (F0 m pc ls (v.toList.map (am_cv b0 b)))) :
    ∀ (n : Nat) (f : am_F), am_run scr C t n f v h' → am_cont p l e R s m args below meth c Q b0 b cI cB dC dI nL n0 z0 f
  | 0, f, hr => by cases hr
  | n + 1, f, hr => by
    have hup := am_run_up (fun j as h w h1 hj => (hC j as h w h1 hj).1) (n + 1) f hr
    have hcap : f.2.2.2.length ≤ R.cells + n0 ∧ am_szs f.2.2.2 ≤ R.slots + z0 := ⟨Nat.le_trans hup.1 hN.1, Nat.le_trans hup.2 hN.2⟩
    refine ⟨hcap, fun H locs ls cells slots hrep hcells hslots => ?_⟩
    unfold am_run at hr
    split at hr
    next => cases hr
    next E hE =>
      refine am_one (Kf := fun w => v = w ∧ h' = f.2.2.2) hc hR hrep hcells hslots hcap (am_fetch_ok ht hE) (fun w hw hf => ?_) (am_K_map hr (fun g hg => am_run_sound hc hR hC ht hN hret n g hg) (fun c w hw => hw) (fun j as g hg => ?_))
      · obtain ⟨rfl, e2⟩ := hf
        rw [← e2] at hrep hcells hslots
        exact hret f.1 H locs ls cells slots f.2.1 hrep hcells hslots hw
      · obtain ⟨w, h1, h2, h3⟩ := hg
        exact ⟨w, h1, hC _ _ _ _ _ h2, am_run_sound hc hR hC ht hN hret n _ h3⟩
end
theorem am_ent_at {b0 b : Nat} : ∀ (as : List Value) (i : Nat) (v : Value), (as.flatMap (fun v => if v.category = 2 then [some v, none] else [some v]))[i]? = some (some v) → (lg_sl (as.map (am_cv b0 b)))[i]? = some (.val (am_cv b0 b v))
  | [], i, v, h => by simp at h
  | a :: as, i, v, h => by
    by_cases hc : a.category = 2
    · have e1 : lg_sl ((a :: as).map (am_cv b0 b)) = Slot.val (am_cv b0 b a) :: Slot.second :: lg_sl (as.map (am_cv b0 b)) := by
        simp [lg_sl, am_cv_cat, hc]
      rw [e1]
      simp only [List.flatMap_cons, hc, if_true] at h
      match i, h with
      | 0, h => simp at h; subst h; rfl
      | 1, h => simp at h
      | i + 2, h => exact am_ent_at as i v (by simpa using h)
    · have e1 : lg_sl ((a :: as).map (am_cv b0 b)) = Slot.val (am_cv b0 b a) :: lg_sl (as.map (am_cv b0 b)) := by
        simp [lg_sl, am_cv_cat, hc]
      rw [e1]
      simp only [List.flatMap_cons, hc, if_false] at h
      match i, h with
      | 0, h => simp at h; subst h; rfl
      | i + 1, h => exact am_ent_at as i v (by simpa using h)
theorem am_ent_len {b0 b : Nat} : ∀ as : List Value, (lg_sl (as.map (am_cv b0 b))).length = (as.flatMap (fun v => if v.category = 2 then [some v, none] else [some v])).length
  | [] => rfl
  | a :: as => by
    have ih := am_ent_len (b0 := b0) (b := b) as
    by_cases hc : a.category = 2
    · have e1 : lg_sl ((a :: as).map (am_cv b0 b)) = Slot.val (am_cv b0 b a) :: Slot.second :: lg_sl (as.map (am_cv b0 b)) := by
        simp [lg_sl, am_cv_cat, hc]
      rw [e1]
      simp [List.flatMap_cons, hc, ih]
    · have e1 : lg_sl ((a :: as).map (am_cv b0 b)) = Slot.val (am_cv b0 b a) :: lg_sl (as.map (am_cv b0 b)) := by
        simp [lg_sl, am_cv_cat, hc]
      rw [e1]
      simp [List.flatMap_cons, hc, ih]
theorem am_ent_lh {b0 b nL : Nat} {as : List Value} (hl : (am_ent nL as).length = nL) : am_lh b0 b ((lg_sl (as.map (am_cv b0 b)) ++ List.replicate (nL - (lg_sl (as.map (am_cv b0 b))).length) Slot.unset).toArray) nL (am_ent nL as) := by
  have hlen := am_ent_len (b0 := b0) (b := b) as
  have hle : (lg_sl (as.map (am_cv b0 b))).length ≤ nL := by
    unfold am_ent at hl
    simp only [List.length_append, List.length_replicate] at hl
    omega
  have h1 := lv_entry (as.map (am_cv b0 b)) hle
  refine ⟨h1.1, h1.2.1, hl, fun i v hi => ?_⟩
  unfold am_ent at hi
  simp only at hi
  have hlt : i < (as.flatMap (fun v => if v.category = 2 then [some v, none] else [some v])).length := by
    refine Nat.lt_of_not_le (fun h => ?_)
    rw [List.getElem?_append_right h] at hi
    have := List.eq_of_mem_replicate (List.mem_of_getElem? hi)
    cases this
  rw [List.getElem?_append_left hlt] at hi
  have h2 := am_ent_at (b0 := b0) (b := b) as i v hi
  rw [List.getElem?_toArray, List.getElem?_append_left (by rw [hlen]; exact hlt)]
  exact h2
set_option maxHeartbeats 1000000 in
/-- what my machine says of a method is its contract -/
theorem am_ev_met {l : Launch} {b0 b : Nat} {cI cB : ClassId} {dC : Nat → ClassId} {dI : Nat → Nat → Nat} : ∀ (d j : Nat) (as : List Value) (h : am_H) (v : Option Value) (h' : am_H), am_ev d j as h v h' → am_met l b0 b cI cB dC dI d j as h v h'
  | 0, _, _, _, _, _, hv => by cases hv
  | d + 1, j, as, h, v, h', hv => by
    have hup := am_ev_up (d + 1) j as h v h' hv
    obtain ⟨M, n, hM, hent, hr⟩ := hv
    refine ⟨hup, M, hM, ?_⟩
    obtain ⟨hH, hT⟩ := am_ms_ok M (List.mem_of_getElem? hM)
    have hpl : plainName M.1.cls = true := by
      obtain ⟨y, c1, nL1, ret1, kd, w1, w2, w3, w4, n1, t1⟩ := M
      simp only [am_okH, Bool.and_eq_true, decide_eq_true_eq] at hH
      exact hH.1.1.1.1.2
    refine Met.ofW (cc := M.2.1) (maxL := M.2.2.1) (ret := M.2.2.2.1) hpl rfl ?_
    intro p e s m args below meth c s₁ B hml hv
    obtain ⟨rfl, hsz, hP, hK⟩ := hv
    have hts := atoms_spec (ws := am_wsM M) B.pre
    have hr9 := B.returns
    have hlocks := B.notSynchronized
    rw [lg_entry_eq]
    refine (am_run_sound (b0 := b0) (b := b) (cI := cI) (cB := cB) (dC := dC) (dI := dI) (n0 := h.length) (z0 := am_szs h) (d := d) (own := M.1.cls) (mnm := M.1.name) (cc := M.2.1) (nL := M.2.2.1) (ret := M.2.2.2.1) (scr := none)
      ⟨B.exec, B.bytes, hml, findClass_of_methodNamed B.named, fun w hw => hts w (List.mem_cons_of_mem _ hw), hK, fun _ => (name_of_methodNamed B.named B.method).1, hsz, fun n xs hx => by cases hx⟩
      ⟨Nat.le_refl _, by show 139 + 40 * d ≤ 100 + 40 * (d + 1); omega⟩ (fun j as h w h1 hj => am_ev_met d j as h w h1 hj) hT ⟨by show h'.length ≤ (h'.length - h.length) + h.length; have := hup.1; omega, by show am_szs h' ≤ (am_szs h' - am_szs h) + am_szs h; have := hup.2; omega⟩ ?_ n _ hr).2 s.heap [] _ 0 0 ⟨hP, va_S.rf, am_ent_lh hent⟩ (Nat.zero_add _) (Nat.zero_add _)
    intro pc H locs ls cells slots L hrep hcells hslots hret
    obtain ⟨hP1, hS1, -⟩ := hrep
    have e1 : cells = h'.length - h.length := by omega
    have e2 : slots = am_szs h' - am_szs h := by omega
    subst e1
    subst e2
    rcases hret with ⟨x, rfl, hd, hrt⟩ | ⟨q, C, rfl, hd, hrt⟩ | ⟨rfl, hd, hrt⟩
    · rcases hrt with hrt | ⟨hrt, hx⟩
      · exact W.iret (v := x) B.exec B.bytes (hr9.trans hrt) (fun t ht hW => ⟨rfl, by rw [ht]; exact hP1, hS1.F ht⟩) hS1.2.2 hd
      · exact W.zret (v := x) B.exec B.bytes (hr9.trans hrt) (by rcases hx with rfl | rfl <;> rfl) (fun t ht hW => ⟨rfl, by rw [ht]; exact hP1, hS1.F ht⟩) hS1.2.2 hd
    · exact W.aret (v := .ref (b0 + q)) B.exec B.bytes (hr9.trans hrt) (Or.inl ⟨C, rfl⟩) (Or.inr ⟨_, rfl⟩) (fun t ht hW => ⟨rfl, by rw [ht]; exact hP1, hS1.F ht⟩) hS1.2.2 hd
    · exact W.vret B.exec B.bytes (hr9.trans hrt) (fun t ht hW => ⟨rfl, by rw [ht]; exact hP1, hS1.F ht⟩) hS1.2.2 hd
end
section
/-! the law, out of its run on my machine -/
theorem am_arr {s : State} {args : Array Value} {ty : FieldType} (hp : ∀ C, ty ≠ .object C) (h : (Jvm.Cond.arrayClass ty).before args s = true) : ∃ cA : ClassId, ArrOfT s cA ty ∧ va_RA s cA ty := by
  obtain ⟨cA, kA, comp, h1, h2, h3⟩ := Cond.arrayClass_spec h
  refine ⟨cA, fun n z => ⟨fun k h => (by cases h), kA, h2, comp, h3⟩, ?_⟩
  cases ty with
  | object C => exact absurd rfl (hp C)
  | _ => exact h1
/-- what is asked of the law's run: for every script it ends with 1, in the claim's room -/
def am_good (L : Nat) (xs : Nat → Int32) : Prop := ∃ (n : Nat) (h' : am_H), am_run (some (L, xs)) (am_ev 40) am_t_law n (0, [some (.retAddr 0), none, none, none], [], []) (some (.int 1)) h' ∧ h'.length ≤ 600000 ∧ am_szs h' ≤ 7302250
set_option maxHeartbeats 4000000 in
theorem am_whole {p : Program} {e : Env} {s : State} {m : MethodId} {below : List Frame} {meth : Method} {c : Code} (l : Launch) {b L : Nat} {xs : Nat → Int32} (hG : am_good L xs) (hx : p.tables.exec = Jvm.exec) (hb : c.code = code) (hml : c.maxLocals = 4) (hown : s.vm.findClass "HoarseHillLaw" = some m.cls) (hts0 : ∀ w ∈ lw_tbl, w.before #[Value.ref b] s = true) (hX : va_X b L xs s s.heap) (hbl : b < s.heap.size) {Q : State → Prop}
    (hret : ∀ (pc : Nat) (H : Heap) (ls : Array Slot), decode code pc = .ok (.ireturn, 1) → W p l e room_1 s m #[Value.ref b] below meth c H [] 600000 7302250 Q (F0 m pc ls [.int 1])) : W p l e room_1 s m #[Value.ref b] below meth c s.heap [] 0 0 Q (entryFrame m ([Value.ref b] : List Value).toArray 4) := by
  obtain ⟨n, h', hr, hn1, hn2⟩ := hG
  have hts : ∀ w ∈ am_ws, w.before #[Value.ref b] s = true := fun w hw => hts0 w (List.mem_filter.mp hw).1
  obtain ⟨cI, hI⟩ := am_arr (s := s) (ty := .int) (fun C h => by cases h) (hts (.arrayClass .int) (by decide +kernel))
  obtain ⟨cB, hB⟩ := am_arr (s := s) (ty := .boolean) (fun C h => by cases h) (hts (.arrayClass .boolean) (by decide +kernel))
  have hkn : ∀ (ci : Nat) (q : vw_C), vwCl[ci]? = some q → ∃ (cC : ClassId) (iS : Nat → Nat), u_Kn s q.1 q.2.1 q.2.2 cC iS := by
    intro ci q hq
    obtain ⟨-, -, g3, g4, -⟩ := am_cls ci q hq
    exact u_known hts g3 (hts _ g4)
  have hkn2 : ∀ ci : Nat, ∃ (cC : ClassId) (iS : Nat → Nat), ∀ q : vw_C, vwCl[ci]? = some q → u_Kn s q.1 q.2.1 q.2.2 cC iS := by
    intro ci
    cases hq : vwCl[ci]? with
    | none => exact ⟨0, fun _ => 0, fun q h => by cases h⟩
    | some q =>
      obtain ⟨cC, iS, h⟩ := hkn ci q hq
      exact ⟨cC, iS, fun q' h' => by cases h'; exact h⟩
  have hK : va_K (fun ci => Classical.choose (hkn2 ci), fun ci => Classical.choose (Classical.choose_spec (hkn2 ci))) vwCl [(cI, .int), (cB, .boolean)] s := by
    refine ⟨fun ci q hq => Classical.choose_spec (Classical.choose_spec (hkn2 ci)) q hq, fun k q hk => ?_⟩
    match k, hk with
    | 0, hk => cases hk; exact hI
    | 1, hk => cases hk; exact hB
    | k + 2, hk => simp at hk
  rw [lg_entry_eq]
  have hlh : am_lh s.heap.size b ((lg_sl [Value.ref b] ++ List.replicate (4 - (lg_sl [Value.ref b]).length) Slot.unset).toArray) 4 [some (.retAddr 0), none, none, none] := by
    have h1 := lv_entry [Value.ref b] (n := 4) (Nat.le_of_ble_eq_true rfl)
    refine ⟨h1.1, h1.2.1, rfl, fun i v hi => ?_⟩
    match i, hi with
    | 0, hi => cases hi; rfl
    | 1, hi => cases hi
    | 2, hi => cases hi
    | 3, hi => cases hi
    | i + 4, hi => simp at hi
  refine (am_run_sound (b0 := s.heap.size) (b := b) (cI := cI) (cB := cB) (n0 := 0) (z0 := 0) (d := 40) (own := "HoarseHillLaw") (mnm := "law") (cc := code) (nL := 4) (ret := some .boolean) (scr := some (L, xs))
    ⟨hx, hb, hml, hown, hts, hK, fun h => absurd h (by decide), rfl, fun n0 xs0 h0 => by cases h0; exact ⟨hX, hbl⟩⟩
    ⟨by decide, by decide⟩ (fun j as h w h1 hj => am_ev_met 40 j as h w h1 hj) am_q_law ⟨hn1, hn2⟩ ?_ n _ hr).2 s.heap [] _ 0 0 ⟨fun k q hq => by simp [am_cw] at hq, va_S.rf, hlh⟩ rfl rfl
  intro pc H locs ls cells slots L1 hrep hcells hslots hrt
  rcases hrt with ⟨x, hx1, hd, -⟩ | ⟨q, C, hx1, -⟩ | ⟨hx1, -⟩
  · cases hx1
    refine va_forget (fun q hq => hrep.2.1.2.2 q hq) ?_
    refine W.widen (k := 600000) (n := 7302250) (by omega) (by omega) ?_
    exact hret pc H ls hd
  · cases hx1
  · cases hx1
end
section
/-! runs, by rules: straight stretches are computed, branches, checks, calls and answers by a rule each -/
def rn_out (scr : Option (Nat × (Nat → Int32))) (t : am_T) (f : am_F) : am_R := match f with
  | (pc, L, st, h) => (match am_fetch t pc with
    | some E => am_step scr E L st h
    | none => am_no)
def rn_S (scr : Option (Nat × (Nat → Int32))) (t : am_T) : Nat → am_F → Option am_F
  | 0, f => some f
  | n + 1, f => (match rn_out scr t f with
    | .inl g => rn_S scr t n g
    | .inr _ => some f)
def rn (scr : Option (Nat × (Nat → Int32))) (d : Nat) (t : am_T) (f : am_F) (v : Option Value) (h' : am_H) : Prop := ∃ n, am_run scr (am_ev d) t n f v h'
section
variable {scr : Option (Nat × (Nat → Int32))} {d : Nat} {t : am_T} {f : am_F} {v : Option Value} {h' : am_H}
theorem rn_K {f : am_F} {K : am_F → Prop} {Kr : Prop → Option Value → Prop} {Kc : Nat → List Value → am_F → Prop} (n : Nat) (h1 : ∀ g, K g → am_run scr (am_ev d) t n g v h') (h2 : ∀ c w, Kr c w → c ∧ v = w ∧ h' = f.2.2.2) (h3 : ∀ j as g, Kc j as g → ∃ (w : Option Value) (h1 : am_H), am_ev d j as f.2.2.2 w h1 ∧ am_run scr (am_ev d) t n (g.1, g.2.1, w.toList ++ g.2.2.1, h1) v h') (hk : am_K (rn_out scr t f) K Kr Kc) : am_run scr (am_ev d) t (n + 1) f v h' := by
  obtain ⟨pc, L, st, h⟩ := f
  unfold am_run
  unfold rn_out at hk
  simp only at hk ⊢
  split at hk
  next E hE => rw [hE]; exact am_K_map hk h1 h2 h3
  next => exact hk.elim
theorem rn_one {f g : am_F} (h : rn_out scr t f = .inl g) (hr : rn scr d t g v h') : rn scr d t f v h' := by
  obtain ⟨n, hr⟩ := hr
  exact ⟨n + 1, rn_K (K := fun x => x = g) (Kr := fun _ _ => False) (Kc := fun _ _ _ => False) n (fun x hx => by rw [hx]; exact hr) (fun _ _ h => h.elim) (fun _ _ _ h => h.elim) (by rw [h]; rfl)⟩
/-- a straight stretch -/
theorem rn_go : ∀ (n : Nat) {f g : am_F}, rn_S scr t n f = some g → rn scr d t g v h' → rn scr d t f v h'
  | 0, f, g, h, hr => by cases h; exact hr
  | n + 1, f, g, h, hr => by
    unfold rn_S at h
    cases hg : rn_out scr t f with
    | inl x =>
      rw [hg] at h
      exact rn_one hg (rn_go n h hr)
    | inr o =>
      rw [hg] at h
      cases h
      exact hr
variable {pc0 : Nat} {L0 : am_L} {st0 : List Value} {h0 : am_H}
/-- a branch -/
theorem rn_br {c : Prop} {x y : am_F} (hg : rn_out scr t f = .inr (.inl (c, x, y))) (h1 : c → rn scr d t x v h') (h2 : ¬ c → rn scr d t y v h') : rn scr d t f v h' := by
  by_cases hc : c
  · obtain ⟨k, hr⟩ := h1 hc
    exact ⟨k + 1, rn_K (K := fun z => z = x) (Kr := fun _ _ => False) (Kc := fun _ _ _ => False) k (fun z hz => by rw [hz]; exact hr) (fun _ _ h => h.elim) (fun _ _ _ h => h.elim) (by rw [hg]; exact ⟨fun _ => rfl, fun h => absurd hc h⟩)⟩
  · obtain ⟨k, hr⟩ := h2 hc
    exact ⟨k + 1, rn_K (K := fun z => z = y) (Kr := fun _ _ => False) (Kc := fun _ _ _ => False) k (fun z hz => by rw [hz]; exact hr) (fun _ _ h => h.elim) (fun _ _ _ h => h.elim) (by rw [hg]; exact ⟨fun h => absurd h hc, fun _ => rfl⟩)⟩
/-- a check -/
theorem rn_ck {c : Prop} {x : am_F} (hg : rn_out scr t f = .inr (.inr (.inl (c, x)))) (hc : c) (hr : rn scr d t x v h') : rn scr d t f v h' := by
  obtain ⟨k, hr⟩ := hr
  exact ⟨k + 1, rn_K (K := fun z => z = x) (Kr := fun _ _ => False) (Kc := fun _ _ _ => False) k (fun z hz => by rw [hz]; exact hr) (fun _ _ h => h.elim) (fun _ _ _ h => h.elim) (by rw [hg]; exact ⟨hc, rfl⟩)⟩
/-- an int is read out of an array, at a place known by its number -/
theorem rn_ld {i : Int32} {N pc : Nat} {L : am_L} {st : List Value} {h : am_H} {g : Nat → Int32} (k : Nat) (hg : rn_out scr t f = .inr (.inr (.inl (vp_in i N, (pc, L, .int (am_rd g i) :: st, h))))) (hi : i = nI k) (hk : k < N) (hN : N < 1000000) (hr : rn scr d t (pc, L, .int (g k) :: st, h) v h') : rn scr d t f v h' := by
  subst hi
  refine rn_ck hg (vp_in_nI hk (by omega)) ?_
  have e : am_rd g (nI k) = g k := by unfold am_rd; rw [nI_clamp (by omega)]
  rw [e]
  exact hr
/-- an int is written into an array, at a place known by its number -/
theorem rn_st {i x : Int32} {N q pc : Nat} {L : am_L} {st : List Value} {h : am_H} {z : Bool} {g : Nat → Int32} (k : Nat) (hg : rn_out scr t f = .inr (.inr (.inl (vp_in i N, (pc, L, st, h.set q (.inl (z, N, am_wr g i x))))))) (hi : i = nI k) (hk : k < N) (hN : N < 1000000) (hr : rn scr d t (pc, L, st, h.set q (.inl (z, N, upd g k x))) v h') : rn scr d t f v h' := by
  subst hi
  refine rn_ck hg (vp_in_nI hk (by omega)) ?_
  have e : am_wr g (nI k) x = upd g k x := by unfold am_wr; rw [nI_clamp (by omega)]
  rw [e]
  exact hr
/-- a call -/
theorem rn_cl {j pc : Nat} {as : List Value} {L : am_L} {st : List Value} {w : Option Value} {hx h1 : am_H} (hg : rn_out scr t (pc0, L0, st0, h0) = .inr (.inr (.inr (.inr (.inl (j, as, (pc, L, st, hx))))))) (he : am_ev d j as h0 w h1) (hr : rn scr d t (pc, L, w.toList ++ st, h1) v h') : rn scr d t (pc0, L0, st0, h0) v h' := by
  obtain ⟨k, hr⟩ := hr
  exact ⟨k + 1, rn_K (K := fun _ => False) (Kr := fun _ _ => False) (Kc := fun a b z => a = j ∧ b = as ∧ z = (pc, L, st, hx)) k (fun _ h => h.elim) (fun _ _ h => h.elim) (fun a b z hz => by obtain ⟨rfl, rfl, rfl⟩ := hz; exact ⟨w, h1, he, hr⟩) (by rw [hg]; exact ⟨rfl, rfl, rfl⟩)⟩
/-- an answer -/
theorem rn_rt {c : Prop} {w : Option Value} (hg : rn_out scr t (pc0, L0, st0, h0) = .inr (.inr (.inr (.inl (c, w))))) (hc : c) (hv : v = w) (hh : h' = h0) : rn scr d t (pc0, L0, st0, h0) v h' := by
  exact ⟨1, rn_K (K := fun _ => False) (Kr := fun a b => a = c ∧ b = w) (Kc := fun _ _ _ => False) 0 (fun _ h => h.elim) (fun a b hz => by obtain ⟨rfl, rfl⟩ := hz; exact ⟨hc, hv, hh⟩) (fun _ _ _ h => h.elim) (by rw [hg]; exact ⟨rfl, rfl⟩)⟩
end
/-- a method, out of a run of its table -/
theorem rn_ev {d j : Nat} {as : List Value} {h : am_H} {v : Option Value} {h' : am_H} (M : am_M) (hM : am_ms[j]? = some M) (he : (am_ent M.2.2.1 as).length = M.2.2.1) (hr : rn none d M.2.2.2.2.2.2.2.2.2.2 (0, am_ent M.2.2.1 as, [], h) v h') : am_ev (d + 1) j as h v h' := by
  obtain ⟨n, hr⟩ := hr
  exact ⟨M, n, hM, he, hr⟩
theorem rn_mono {scr : Option (Nat × (Nat → Int32))} {C C' : Nat → List Value → am_H → Option Value → am_H → Prop} (hC : ∀ j as h w h1, C j as h w h1 → C' j as h w h1) {t : am_T} {v : Option Value} {h' : am_H} : ∀ (n : Nat) (f : am_F), am_run scr C t n f v h' → am_run scr C' t n f v h'
  | 0, f, hr => by cases hr
  | n + 1, f, hr => by
    unfold am_run at hr ⊢
    split at hr
    next => cases hr
    next E hE => exact am_K_map hr (fun g hg => rn_mono hC n g hg) (fun c w hw => hw) (fun j as g hg => by obtain ⟨w, h1, h2, h3⟩ := hg; exact ⟨w, h1, hC _ _ _ _ _ h2, rn_mono hC n _ h3⟩)
theorem ev_up1 : ∀ (d j : Nat) (as : List Value) (h : am_H) (v : Option Value) (h' : am_H), am_ev d j as h v h' → am_ev (d + 1) j as h v h'
  | 0, _, _, _, _, _, hv => by cases hv
  | d + 1, j, as, h, v, h', hv => by
    obtain ⟨M, n, hM, he, hr⟩ := hv
    exact ⟨M, n, hM, he, rn_mono (ev_up1 d) n _ hr⟩
theorem ev_up {d e : Nat} (hde : d ≤ e) {j : Nat} {as : List Value} {h : am_H} {v : Option Value} {h' : am_H} (hv : am_ev d j as h v h') : am_ev e j as h v h' := by
  obtain ⟨k, rfl⟩ := Nat.exists_eq_add_of_le hde
  induction k with
  | zero => exact hv
  | succ k ih => exact ev_up1 (d + k) j as h v h' (ih (Nat.le_add_right _ _))
/-- a straight stretch, up to the place q -/
def rn_T (scr : Option (Nat × (Nat → Int32))) (t : am_T) (q : Nat) : Nat → am_F → Option am_F
  | 0, _ => none
  | n + 1, f => (match rn_out scr t f with
    | .inl g => (match Nat.beq g.1 q with
      | true => some g
      | false => rn_T scr t q n g)
    | .inr _ => none)
theorem rn_to {scr : Option (Nat × (Nat → Int32))} {d : Nat} {t : am_T} {v : Option Value} {h' : am_H} (q : Nat) : ∀ (n : Nat) {f g : am_F}, rn_T scr t q n f = some g → rn scr d t g v h' → rn scr d t f v h'
  | 0, f, g, h, hr => by cases h
  | n + 1, f, g, h, hr => by
    unfold rn_T at h
    cases hg : rn_out scr t f with
    | inl x =>
      rw [hg] at h
      simp only at h
      split at h
      · cases h; exact rn_one hg hr
      · exact rn_one hg (rn_to q n h hr)
    | inr o =>
      rw [hg] at h
      cases h
end
section
/-! the world of the law: the class's cells 0 .. 42, the reference's 43 .. 53; ints by a function g, hills by T, arrays by A; the reference's ints by gm, its arrays by Am -/
def wa (t : Nat → Int32) (b : Nat) : Nat → Int32 := fun k => if k < 4 then t (b + k) else 0
def wd (g : Nat → Int32) (T : Nat → Nat → Int32) (A : Nat → Nat → Int32) (gm : Nat → Int32) (Am : Nat → Nat → Int32) : am_H :=
  [.inr (8, [.ref 1, .ref 15, .ref 5, .ref 17, .ref 22, .ref 27, .ref 32, .ref 34, .ref 36, .ref 40, .ref 41, .int (g 0), .int (g 1)]),
   .inr (6, [.ref 2, .ref 3, .ref 4]), .inl (false, 8, A 0), .inl (false, 8, A 1), .inl (false, 320, A 2),
   .inr (3, [.int (g 11), .int (T 0 2), .int (T 0 0), .int (T 0 1), .int (T 0 3), .int (T 0 4), .ref 6, .ref 7, .ref 8, .ref 9]), .inl (false, 4, wa (T 0) 5), .inl (false, 4, wa (T 0) 9), .inl (false, 4, wa (T 0) 13), .inl (false, 4, wa (T 0) 17),
   .inr (3, [.int (g 12), .int (T 1 2), .int (T 1 0), .int (T 1 1), .int (T 1 3), .int (T 1 4), .ref 11, .ref 12, .ref 13, .ref 14]), .inl (false, 4, wa (T 1) 5), .inl (false, 4, wa (T 1) 9), .inl (false, 4, wa (T 1) 13), .inl (false, 4, wa (T 1) 17),
   .inr (7, [.ref 16, .int (g 2), .int (g 3), .int (g 4)]), .inl (false, 100, A 3),
   .inr (3, [.int (g 13), .int (T 2 2), .int (T 2 0), .int (T 2 1), .int (T 2 3), .int (T 2 4), .ref 18, .ref 19, .ref 20, .ref 21]), .inl (false, 4, wa (T 2) 5), .inl (false, 4, wa (T 2) 9), .inl (false, 4, wa (T 2) 13), .inl (false, 4, wa (T 2) 17),
   .inr (3, [.int (g 14), .int (T 3 2), .int (T 3 0), .int (T 3 1), .int (T 3 3), .int (T 3 4), .ref 23, .ref 24, .ref 25, .ref 26]), .inl (false, 4, wa (T 3) 5), .inl (false, 4, wa (T 3) 9), .inl (false, 4, wa (T 3) 13), .inl (false, 4, wa (T 3) 17),
   .inr (3, [.int (g 15), .int (T 4 2), .int (T 4 0), .int (T 4 1), .int (T 4 3), .int (T 4 4), .ref 28, .ref 29, .ref 30, .ref 31]), .inl (false, 4, wa (T 4) 5), .inl (false, 4, wa (T 4) 9), .inl (false, 4, wa (T 4) 13), .inl (false, 4, wa (T 4) 17),
   .inr (0, [.ref 33, .int (g 5), .int (g 6)]), .inl (false, 240, A 4),
   .inr (2, [.ref 5, .ref 10, .ref 35]), .inl (false, 4, A 5),
   .inr (5, [.ref 5, .ref 10, .ref 37, .ref 38, .ref 39, .int (g 7), .int (g 8)]), .inl (false, 16, A 6), .inl (false, 4, A 7), .inl (false, 4, A 8),
   .inr (4, [.ref 5, .ref 10, .ref 1]),
   .inr (1, [.ref 5, .ref 42, .int (g 9), .int (g 10)]), .inl (false, 16, A 9),
   .inr (9, [.ref 44, .int (gm 0), .int (gm 1), .ref 45, .ref 46, .ref 47, .ref 48, .ref 49, .int (gm 2), .int (gm 3), .int (gm 4), .ref 50, .int (gm 5), .int (gm 6), .int (gm 7), .int (gm 8), .ref 51, .ref 52, .ref 53]),
   .inl (false, 672, Am 0), .inl (true, 2, Am 1), .inl (false, 8, Am 2), .inl (false, 8, Am 3), .inl (false, 320, Am 4), .inl (false, 100, Am 5), .inl (false, 16, Am 6), .inl (false, 5, Am 7), .inl (false, 4, Am 8), .inl (false, 4, Am 9)]
end
section
/-! the hill: what the class's Hill does, by numbers: t the hill's numbers (0 motions, 1 members, 2 cost, 3 day, 4 carried, 5.. needs, 9.. kinds, 13.. breaths, 17.. mends) -/
theorem wa_at {t : Nat → Int32} {b k : Nat} (h : k < 4) : wa t b k = t (b + k) := by unfold wa; rw [if_pos h]
def us (x y : Int32) : Int32 := (x.toUInt32 >>> (y.toUInt32 &&& Int32.toUInt32 31)).toInt32
def bc1 (x : Int32) : Int32 := x - (us x 1 &&& 1431655765)
def bc2 (x : Int32) : Int32 := (x &&& 858993459) + (us x 2 &&& 858993459)
def bc3 (x : Int32) : Int32 := (x + us x 4) &&& 252645135
def bc4 (x : Int32) : Int32 := x + us x 8
def bc5 (x : Int32) : Int32 := x + us x 16
def bc (x : Int32) : Int32 := bc5 (bc4 (bc3 (bc2 (bc1 x)))) &&& 63
def tc (t : Nat → Int32) (p : Nat) : Int32 := if t (9 + p) = 1 then t 2 else if t (9 + p) = 2 then t 2 + 1 else if t (9 + p) = 3 then t 2 else 0
def ta (t : Nat → Int32) : Nat → Int32
  | 0 => 0
  | i + 1 => if t (13 + i) < tc t i then ta t i else ta t i ||| (1 <<< (nI i &&& 31))
def tw (t : Nat → Int32) (p : Nat) (a : Int32) : Int32 := if t (9 + p) = 1 then 20 - t (13 + p) else if t (9 + p) = 2 then 2 * (20 - t (13 + p)) else if t (9 + p) = 3 then 20 - t (13 + p) else if t (9 + p) = 4 then 5 else 5 + t 1 - bc a
def tb (s : Int32) (i : Nat) : Int32 := s >>> (nI i &&& 31) &&& 1
def ts (t : Nat → Int32) (s a : Int32) : Nat → Int32
  | 0 => 0
  | i + 1 => if tb s i = 0 then ts t s a i else ts t s a i + tw t i a
def tn (t : Nat → Int32) (dy mo : Nat) : Int32 := t (5 + dy % mo)
section
variable {g gm : Nat → Int32} {T A Am : Nat → Nat → Int32} {h : am_H}
set_option maxRecDepth 10000
theorem xj_bitCount (x : Int32) : am_ev 1 227 [.int x] h (some (.int (bc x))) h := by
  refine rn_ev am_m_J6_bitCount_0f7a4 rfl rfl ?_
  refine rn_go 80 (by with_unfolding_all rfl) ?_
  exact rn_rt (by with_unfolding_all rfl) trivial rfl rfl
theorem xh_costOf0 (p : Nat) (hp : p < 4) : am_ev 1 44 [.ref 5, .int (nI p)] (wd g T A gm Am) (some (.int (tc (T 0) p))) (wd g T A gm Am) := by
  refine rn_ev am_m_X3_costOf rfl rfl ?_
  refine rn_go 80 (by with_unfolding_all rfl) ?_
  refine rn_ld (p) (by with_unfolding_all rfl) rfl hp (by decide) ?_
  rw [wa_at hp]
  refine rn_one (by with_unfolding_all rfl) ?_
  unfold tc
  by_cases h1 : T 0 (9 + p) = 1
  · rw [if_pos h1]
    simp only [am_pick, if_pos h1]
    refine rn_go 80 (by with_unfolding_all rfl) ?_
    exact rn_rt (by with_unfolding_all rfl) trivial rfl rfl
  · rw [if_neg h1]
    by_cases h2 : T 0 (9 + p) = 2
    · rw [if_pos h2]
      simp only [am_pick, if_neg h1, if_pos h2]
      refine rn_go 80 (by with_unfolding_all rfl) ?_
      exact rn_rt (by with_unfolding_all rfl) trivial rfl rfl
    · rw [if_neg h2]
      by_cases h3 : T 0 (9 + p) = 3
      · rw [if_pos h3]
        simp only [am_pick, if_neg h1, if_neg h2, if_pos h3]
        refine rn_go 80 (by with_unfolding_all rfl) ?_
        exact rn_rt (by with_unfolding_all rfl) trivial rfl rfl
      · rw [if_neg h3]
        simp only [am_pick, if_neg h1, if_neg h2, if_neg h3]
        refine rn_go 80 (by with_unfolding_all rfl) ?_
        exact rn_rt (by with_unfolding_all rfl) trivial rfl rfl
theorem xh_ableL0 {n : Nat} (hn : T 0 1 = nI n) (hn4 : n ≤ 4) : ∀ k i, i + k = n → rn none 1 am_t_X3_ableSet (4, [some (.ref 5), some (.int (ta (T 0) i)), some (.int (nI i))], [], wd g T A gm Am) (some (.int (ta (T 0) n))) (wd g T A gm Am)
  | 0, i, hi => by
    refine rn_go 80 (by with_unfolding_all rfl) ?_
    refine rn_br (by with_unfolding_all rfl) (fun c => ?_) (fun c => ?_)
    · refine rn_go 80 (by with_unfolding_all rfl) ?_
      exact rn_rt (by with_unfolding_all rfl) (trivial) (by rw [show n = i by omega]) (rfl)
    · exact absurd (by rw [hn, show n = i by omega]; exact Int32.le_refl _) c
  | k + 1, i, hi => by
    have ih := xh_ableL0 hn hn4 k (i + 1) (by omega)
    refine rn_go 80 (by with_unfolding_all rfl) ?_
    refine rn_br (by with_unfolding_all rfl) (fun c => ?_) (fun c => ?_)
    · exact absurd (by rw [hn] at c; exact c) (nI_ge (show i < n by omega) (by omega))
    · refine rn_go 80 (by with_unfolding_all rfl) ?_
      refine rn_ld (i) (by with_unfolding_all rfl) rfl (by omega) (by decide) ?_
      rw [wa_at (show i < 4 by omega)]
      refine rn_go 80 (by with_unfolding_all rfl) ?_
      refine rn_cl (by with_unfolding_all rfl) (ev_up (by decide) (xh_costOf0 i (by omega))) ?_
      refine rn_go 80 (by with_unfolding_all rfl) ?_
      refine rn_br (by with_unfolding_all rfl) (fun c2 => ?_) (fun c2 => ?_)
      · refine rn_to 4 80 (by with_unfolding_all rfl) ?_
        rw [show ta (T 0) (i + 1) = ta (T 0) i by simp only [ta, if_pos c2], ← nI_1] at ih
        with_unfolding_all exact ih
      · refine rn_to 4 80 (by with_unfolding_all rfl) ?_
        rw [show ta (T 0) (i + 1) = ta (T 0) i ||| (1 <<< (nI i &&& 31)) by simp only [ta, if_neg c2], ← nI_1] at ih
        with_unfolding_all exact ih
theorem xh_ableSet0 {n : Nat} (hn : T 0 1 = nI n) (hn4 : n ≤ 4) : am_ev 2 45 [.ref 5] (wd g T A gm Am) (some (.int (ta (T 0) n))) (wd g T A gm Am) := by
  refine rn_ev am_m_X3_ableSet rfl rfl ?_
  refine rn_to 4 80 (by with_unfolding_all rfl) ?_
  with_unfolding_all exact xh_ableL0 hn hn4 n 0 (by omega)
theorem xh_weighs0 (p : Nat) (hp : p < 4) (b : Int32) : am_ev 2 46 [.ref 5, .int (nI p), .int b] (wd g T A gm Am) (some (.int (tw (T 0) p b))) (wd g T A gm Am) := by
  refine rn_ev am_m_X3_weighs rfl rfl ?_
  refine rn_go 80 (by with_unfolding_all rfl) ?_
  refine rn_ld (p) (by with_unfolding_all rfl) rfl hp (by decide) ?_
  rw [wa_at hp]
  refine rn_one (by with_unfolding_all rfl) ?_
  unfold tw
  by_cases h1 : T 0 (9 + p) = 1
  · rw [if_pos h1]
    simp only [am_pick, if_pos h1]
    refine rn_go 80 (by with_unfolding_all rfl) ?_
    refine rn_ld (p) (by with_unfolding_all rfl) rfl hp (by decide) ?_
    rw [wa_at hp]
    refine rn_go 80 (by with_unfolding_all rfl) ?_
    exact rn_rt (by with_unfolding_all rfl) trivial rfl rfl
  · rw [if_neg h1]
    by_cases h2 : T 0 (9 + p) = 2
    · rw [if_pos h2]
      simp only [am_pick, if_neg h1, if_pos h2]
      refine rn_go 80 (by with_unfolding_all rfl) ?_
      refine rn_ld (p) (by with_unfolding_all rfl) rfl hp (by decide) ?_
      rw [wa_at hp]
      refine rn_go 80 (by with_unfolding_all rfl) ?_
      exact rn_rt (by with_unfolding_all rfl) trivial rfl rfl
    · rw [if_neg h2]
      by_cases h3 : T 0 (9 + p) = 3
      · rw [if_pos h3]
        simp only [am_pick, if_neg h1, if_neg h2, if_pos h3]
        refine rn_go 80 (by with_unfolding_all rfl) ?_
        refine rn_ld (p) (by with_unfolding_all rfl) rfl hp (by decide) ?_
        rw [wa_at hp]
        refine rn_go 80 (by with_unfolding_all rfl) ?_
        exact rn_rt (by with_unfolding_all rfl) trivial rfl rfl
      · rw [if_neg h3]
        by_cases h4 : T 0 (9 + p) = 4
        · rw [if_pos h4]
          simp only [am_pick, if_neg h1, if_neg h2, if_neg h3, if_pos h4]
          refine rn_go 80 (by with_unfolding_all rfl) ?_
          exact rn_rt (by with_unfolding_all rfl) trivial rfl rfl
        · rw [if_neg h4]
          simp only [am_pick, if_neg h1, if_neg h2, if_neg h3, if_neg h4]
          refine rn_go 80 (by with_unfolding_all rfl) ?_
          refine rn_cl (by with_unfolding_all rfl) (ev_up (by decide) (xj_bitCount b)) ?_
          refine rn_go 80 (by with_unfolding_all rfl) ?_
          exact rn_rt (by with_unfolding_all rfl) trivial rfl rfl
theorem xh_wsL0 {n : Nat} (hn : T 0 1 = nI n) (hn4 : n ≤ 4) (s b : Int32) : ∀ k i, i + k = n → rn none 2 am_t_X3_weighsSet (5, [some (.ref 5), some (.int s), some (.int b), some (.int (ts (T 0) s b i)), some (.int (nI i))], [], wd g T A gm Am) (some (.int (ts (T 0) s b n))) (wd g T A gm Am)
  | 0, i, hi => by
    refine rn_go 80 (by with_unfolding_all rfl) ?_
    refine rn_br (by with_unfolding_all rfl) (fun c => ?_) (fun c => ?_)
    · refine rn_go 80 (by with_unfolding_all rfl) ?_
      exact rn_rt (by with_unfolding_all rfl) (trivial) (by rw [show n = i by omega]) (rfl)
    · exact absurd (by rw [hn, show n = i by omega]; exact Int32.le_refl _) c
  | k + 1, i, hi => by
    have ih := xh_wsL0 hn hn4 s b k (i + 1) (by omega)
    refine rn_go 80 (by with_unfolding_all rfl) ?_
    refine rn_br (by with_unfolding_all rfl) (fun c => ?_) (fun c => ?_)
    · exact absurd (by rw [hn] at c; exact c) (nI_ge (show i < n by omega) (by omega))
    · refine rn_go 80 (by with_unfolding_all rfl) ?_
      refine rn_br (by with_unfolding_all rfl) (fun c2 => ?_) (fun c2 => ?_)
      · refine rn_to 5 80 (by with_unfolding_all rfl) ?_
        rw [show ts (T 0) s b (i + 1) = ts (T 0) s b i by simp only [ts]; exact if_pos c2, ← nI_1] at ih
        with_unfolding_all exact ih
      · refine rn_go 80 (by with_unfolding_all rfl) ?_
        refine rn_cl (by with_unfolding_all rfl) (ev_up (by decide) (xh_weighs0 i (by omega) b)) ?_
        refine rn_to 5 80 (by with_unfolding_all rfl) ?_
        rw [show ts (T 0) s b (i + 1) = ts (T 0) s b i + tw (T 0) i b by simp only [ts]; exact if_neg c2, ← nI_1] at ih
        with_unfolding_all exact ih
theorem xh_weighsSet0 {n : Nat} (hn : T 0 1 = nI n) (hn4 : n ≤ 4) (s b : Int32) : am_ev 3 47 [.ref 5, .int s, .int b] (wd g T A gm Am) (some (.int (ts (T 0) s b n))) (wd g T A gm Am) := by
  refine rn_ev am_m_X3_weighsSet rfl rfl ?_
  refine rn_to 5 80 (by with_unfolding_all rfl) ?_
  with_unfolding_all exact xh_wsL0 hn hn4 s b n 0 (by omega)
theorem xh_costOf1 (p : Nat) (hp : p < 4) : am_ev 1 44 [.ref 10, .int (nI p)] (wd g T A gm Am) (some (.int (tc (T 1) p))) (wd g T A gm Am) := by
  refine rn_ev am_m_X3_costOf rfl rfl ?_
  refine rn_go 80 (by with_unfolding_all rfl) ?_
  refine rn_ld (p) (by with_unfolding_all rfl) rfl hp (by decide) ?_
  rw [wa_at hp]
  refine rn_one (by with_unfolding_all rfl) ?_
  unfold tc
  by_cases h1 : T 1 (9 + p) = 1
  · rw [if_pos h1]
    simp only [am_pick, if_pos h1]
    refine rn_go 80 (by with_unfolding_all rfl) ?_
    exact rn_rt (by with_unfolding_all rfl) trivial rfl rfl
  · rw [if_neg h1]
    by_cases h2 : T 1 (9 + p) = 2
    · rw [if_pos h2]
      simp only [am_pick, if_neg h1, if_pos h2]
      refine rn_go 80 (by with_unfolding_all rfl) ?_
      exact rn_rt (by with_unfolding_all rfl) trivial rfl rfl
    · rw [if_neg h2]
      by_cases h3 : T 1 (9 + p) = 3
      · rw [if_pos h3]
        simp only [am_pick, if_neg h1, if_neg h2, if_pos h3]
        refine rn_go 80 (by with_unfolding_all rfl) ?_
        exact rn_rt (by with_unfolding_all rfl) trivial rfl rfl
      · rw [if_neg h3]
        simp only [am_pick, if_neg h1, if_neg h2, if_neg h3]
        refine rn_go 80 (by with_unfolding_all rfl) ?_
        exact rn_rt (by with_unfolding_all rfl) trivial rfl rfl
theorem xh_ableL1 {n : Nat} (hn : T 1 1 = nI n) (hn4 : n ≤ 4) : ∀ k i, i + k = n → rn none 1 am_t_X3_ableSet (4, [some (.ref 10), some (.int (ta (T 1) i)), some (.int (nI i))], [], wd g T A gm Am) (some (.int (ta (T 1) n))) (wd g T A gm Am)
  | 0, i, hi => by
    refine rn_go 80 (by with_unfolding_all rfl) ?_
    refine rn_br (by with_unfolding_all rfl) (fun c => ?_) (fun c => ?_)
    · refine rn_go 80 (by with_unfolding_all rfl) ?_
      exact rn_rt (by with_unfolding_all rfl) (trivial) (by rw [show n = i by omega]) (rfl)
    · exact absurd (by rw [hn, show n = i by omega]; exact Int32.le_refl _) c
  | k + 1, i, hi => by
    have ih := xh_ableL1 hn hn4 k (i + 1) (by omega)
    refine rn_go 80 (by with_unfolding_all rfl) ?_
    refine rn_br (by with_unfolding_all rfl) (fun c => ?_) (fun c => ?_)
    · exact absurd (by rw [hn] at c; exact c) (nI_ge (show i < n by omega) (by omega))
    · refine rn_go 80 (by with_unfolding_all rfl) ?_
      refine rn_ld (i) (by with_unfolding_all rfl) rfl (by omega) (by decide) ?_
      rw [wa_at (show i < 4 by omega)]
      refine rn_go 80 (by with_unfolding_all rfl) ?_
      refine rn_cl (by with_unfolding_all rfl) (ev_up (by decide) (xh_costOf1 i (by omega))) ?_
      refine rn_go 80 (by with_unfolding_all rfl) ?_
      refine rn_br (by with_unfolding_all rfl) (fun c2 => ?_) (fun c2 => ?_)
      · refine rn_to 4 80 (by with_unfolding_all rfl) ?_
        rw [show ta (T 1) (i + 1) = ta (T 1) i by simp only [ta, if_pos c2], ← nI_1] at ih
        with_unfolding_all exact ih
      · refine rn_to 4 80 (by with_unfolding_all rfl) ?_
        rw [show ta (T 1) (i + 1) = ta (T 1) i ||| (1 <<< (nI i &&& 31)) by simp only [ta, if_neg c2], ← nI_1] at ih
        with_unfolding_all exact ih
theorem xh_ableSet1 {n : Nat} (hn : T 1 1 = nI n) (hn4 : n ≤ 4) : am_ev 2 45 [.ref 10] (wd g T A gm Am) (some (.int (ta (T 1) n))) (wd g T A gm Am) := by
  refine rn_ev am_m_X3_ableSet rfl rfl ?_
  refine rn_to 4 80 (by with_unfolding_all rfl) ?_
  with_unfolding_all exact xh_ableL1 hn hn4 n 0 (by omega)
theorem xh_weighs1 (p : Nat) (hp : p < 4) (b : Int32) : am_ev 2 46 [.ref 10, .int (nI p), .int b] (wd g T A gm Am) (some (.int (tw (T 1) p b))) (wd g T A gm Am) := by
  refine rn_ev am_m_X3_weighs rfl rfl ?_
  refine rn_go 80 (by with_unfolding_all rfl) ?_
  refine rn_ld (p) (by with_unfolding_all rfl) rfl hp (by decide) ?_
  rw [wa_at hp]
  refine rn_one (by with_unfolding_all rfl) ?_
  unfold tw
  by_cases h1 : T 1 (9 + p) = 1
  · rw [if_pos h1]
    simp only [am_pick, if_pos h1]
    refine rn_go 80 (by with_unfolding_all rfl) ?_
    refine rn_ld (p) (by with_unfolding_all rfl) rfl hp (by decide) ?_
    rw [wa_at hp]
    refine rn_go 80 (by with_unfolding_all rfl) ?_
    exact rn_rt (by with_unfolding_all rfl) trivial rfl rfl
  · rw [if_neg h1]
    by_cases h2 : T 1 (9 + p) = 2
    · rw [if_pos h2]
      simp only [am_pick, if_neg h1, if_pos h2]
      refine rn_go 80 (by with_unfolding_all rfl) ?_
      refine rn_ld (p) (by with_unfolding_all rfl) rfl hp (by decide) ?_
      rw [wa_at hp]
      refine rn_go 80 (by with_unfolding_all rfl) ?_
      exact rn_rt (by with_unfolding_all rfl) trivial rfl rfl
    · rw [if_neg h2]
      by_cases h3 : T 1 (9 + p) = 3
      · rw [if_pos h3]
        simp only [am_pick, if_neg h1, if_neg h2, if_pos h3]
        refine rn_go 80 (by with_unfolding_all rfl) ?_
        refine rn_ld (p) (by with_unfolding_all rfl) rfl hp (by decide) ?_
        rw [wa_at hp]
        refine rn_go 80 (by with_unfolding_all rfl) ?_
        exact rn_rt (by with_unfolding_all rfl) trivial rfl rfl
      · rw [if_neg h3]
        by_cases h4 : T 1 (9 + p) = 4
        · rw [if_pos h4]
          simp only [am_pick, if_neg h1, if_neg h2, if_neg h3, if_pos h4]
          refine rn_go 80 (by with_unfolding_all rfl) ?_
          exact rn_rt (by with_unfolding_all rfl) trivial rfl rfl
        · rw [if_neg h4]
          simp only [am_pick, if_neg h1, if_neg h2, if_neg h3, if_neg h4]
          refine rn_go 80 (by with_unfolding_all rfl) ?_
          refine rn_cl (by with_unfolding_all rfl) (ev_up (by decide) (xj_bitCount b)) ?_
          refine rn_go 80 (by with_unfolding_all rfl) ?_
          exact rn_rt (by with_unfolding_all rfl) trivial rfl rfl
theorem xh_wsL1 {n : Nat} (hn : T 1 1 = nI n) (hn4 : n ≤ 4) (s b : Int32) : ∀ k i, i + k = n → rn none 2 am_t_X3_weighsSet (5, [some (.ref 10), some (.int s), some (.int b), some (.int (ts (T 1) s b i)), some (.int (nI i))], [], wd g T A gm Am) (some (.int (ts (T 1) s b n))) (wd g T A gm Am)
  | 0, i, hi => by
    refine rn_go 80 (by with_unfolding_all rfl) ?_
    refine rn_br (by with_unfolding_all rfl) (fun c => ?_) (fun c => ?_)
    · refine rn_go 80 (by with_unfolding_all rfl) ?_
      exact rn_rt (by with_unfolding_all rfl) (trivial) (by rw [show n = i by omega]) (rfl)
    · exact absurd (by rw [hn, show n = i by omega]; exact Int32.le_refl _) c
  | k + 1, i, hi => by
    have ih := xh_wsL1 hn hn4 s b k (i + 1) (by omega)
    refine rn_go 80 (by with_unfolding_all rfl) ?_
    refine rn_br (by with_unfolding_all rfl) (fun c => ?_) (fun c => ?_)
    · exact absurd (by rw [hn] at c; exact c) (nI_ge (show i < n by omega) (by omega))
    · refine rn_go 80 (by with_unfolding_all rfl) ?_
      refine rn_br (by with_unfolding_all rfl) (fun c2 => ?_) (fun c2 => ?_)
      · refine rn_to 5 80 (by with_unfolding_all rfl) ?_
        rw [show ts (T 1) s b (i + 1) = ts (T 1) s b i by simp only [ts]; exact if_pos c2, ← nI_1] at ih
        with_unfolding_all exact ih
      · refine rn_go 80 (by with_unfolding_all rfl) ?_
        refine rn_cl (by with_unfolding_all rfl) (ev_up (by decide) (xh_weighs1 i (by omega) b)) ?_
        refine rn_to 5 80 (by with_unfolding_all rfl) ?_
        rw [show ts (T 1) s b (i + 1) = ts (T 1) s b i + tw (T 1) i b by simp only [ts]; exact if_neg c2, ← nI_1] at ih
        with_unfolding_all exact ih
theorem xh_weighsSet1 {n : Nat} (hn : T 1 1 = nI n) (hn4 : n ≤ 4) (s b : Int32) : am_ev 3 47 [.ref 10, .int s, .int b] (wd g T A gm Am) (some (.int (ts (T 1) s b n))) (wd g T A gm Am) := by
  refine rn_ev am_m_X3_weighsSet rfl rfl ?_
  refine rn_to 5 80 (by with_unfolding_all rfl) ?_
  with_unfolding_all exact xh_wsL1 hn hn4 s b n 0 (by omega)
end
end
