-- ===== PART A: goes FIRST, ahead of the names: the tables' words, and 'selects' of the private methods out of them =====
/-- a private method of a class that the tables say can be made, by its rows of tables_1 -/
def lw_okq (q : MethodName × Nat) : Prop := (q.1.cls ≠ "java/lang/invoke/MethodHandle" ∧ q.1.cls ≠ "java/lang/invoke/VarHandle") ∧ Cond.instantiable q.1.cls q.2 ∈ tables_1 ∧ Cond.privateMethod q.1 ∈ tables_1 ∧ Cond.instanceMethod q.1 ∈ tables_1
theorem lw_p0 : lw_okq (⟨"SwornVane$Tally", "walk", "(II)I"⟩, 5) := ⟨⟨by decide +kernel, by decide +kernel⟩, List.mem_of_getElem? (i := 82) (by decide +kernel), List.mem_of_getElem? (i := 266) (by decide +kernel), List.mem_of_getElem? (i := 267) (by decide +kernel)⟩
theorem lw_p1 : lw_okq (⟨"SwornVane$Tally", "note", "(IIII)V"⟩, 5) := ⟨⟨by decide +kernel, by decide +kernel⟩, List.mem_of_getElem? (i := 82) (by decide +kernel), List.mem_of_getElem? (i := 283) (by decide +kernel), List.mem_of_getElem? (i := 284) (by decide +kernel)⟩
theorem lw_p2 : lw_okq (⟨"SwornVane", "isInquiryClosed", "()Z"⟩, 8) := ⟨⟨by decide +kernel, by decide +kernel⟩, List.mem_of_getElem? (i := 10) (by decide +kernel), List.mem_of_getElem? (i := 310) (by decide +kernel), List.mem_of_getElem? (i := 311) (by decide +kernel)⟩
theorem lw_p3 : lw_okq (⟨"SwornVane", "fewestWitnesses", "(I)I"⟩, 8) := ⟨⟨by decide +kernel, by decide +kernel⟩, List.mem_of_getElem? (i := 10) (by decide +kernel), List.mem_of_getElem? (i := 330) (by decide +kernel), List.mem_of_getElem? (i := 331) (by decide +kernel)⟩
theorem lw_p4 : lw_okq (⟨"SwornVane$Witnesses", "isTold", "(I)Z"⟩, 5) := ⟨⟨by decide +kernel, by decide +kernel⟩, List.mem_of_getElem? (i := 106) (by decide +kernel), List.mem_of_getElem? (i := 348) (by decide +kernel), List.mem_of_getElem? (i := 349) (by decide +kernel)⟩
theorem lw_p5 : lw_okq (⟨"SwornVane$Witnesses", "isOneWind", "(I)Z"⟩, 5) := ⟨⟨by decide +kernel, by decide +kernel⟩, List.mem_of_getElem? (i := 106) (by decide +kernel), List.mem_of_getElem? (i := 352) (by decide +kernel), List.mem_of_getElem? (i := 353) (by decide +kernel)⟩
theorem lw_p6 : lw_okq (⟨"SwornVane$Witnesses", "fillNext", "(II)I"⟩, 5) := ⟨⟨by decide +kernel, by decide +kernel⟩, List.mem_of_getElem? (i := 106) (by decide +kernel), List.mem_of_getElem? (i := 356) (by decide +kernel), List.mem_of_getElem? (i := 357) (by decide +kernel)⟩
theorem lw_p7 : lw_okq (⟨"SwornVane$Witnesses", "blow", "(II)V"⟩, 5) := ⟨⟨by decide +kernel, by decide +kernel⟩, List.mem_of_getElem? (i := 106) (by decide +kernel), List.mem_of_getElem? (i := 362) (by decide +kernel), List.mem_of_getElem? (i := 363) (by decide +kernel)⟩
theorem lw_p8 : lw_okq (⟨"SwornVane", "possibleSorts", "(I)I"⟩, 8) := ⟨⟨by decide +kernel, by decide +kernel⟩, List.mem_of_getElem? (i := 10) (by decide +kernel), List.mem_of_getElem? (i := 374) (by decide +kernel), List.mem_of_getElem? (i := 375) (by decide +kernel)⟩
theorem lw_p9 : lw_okq (⟨"SwornVane$Hill", "canFit", "(II)Z"⟩, 9) := ⟨⟨by decide +kernel, by decide +kernel⟩, List.mem_of_getElem? (i := 36) (by decide +kernel), List.mem_of_getElem? (i := 383) (by decide +kernel), List.mem_of_getElem? (i := 384) (by decide +kernel)⟩
theorem lw_p10 : lw_okq (⟨"SwornVane", "fewestToOil", "(II)I"⟩, 8) := ⟨⟨by decide +kernel, by decide +kernel⟩, List.mem_of_getElem? (i := 10) (by decide +kernel), List.mem_of_getElem? (i := 401) (by decide +kernel), List.mem_of_getElem? (i := 402) (by decide +kernel)⟩
theorem lw_p11 : lw_okq (⟨"SwornVane", "digestOfVane", "(JI)J"⟩, 8) := ⟨⟨by decide +kernel, by decide +kernel⟩, List.mem_of_getElem? (i := 10) (by decide +kernel), List.mem_of_getElem? (i := 454) (by decide +kernel), List.mem_of_getElem? (i := 455) (by decide +kernel)⟩
theorem lw_p12 : lw_okq (⟨"SwornVaneModel", "faultNow", "()I"⟩, 32) := ⟨⟨by decide +kernel, by decide +kernel⟩, List.mem_of_getElem? (i := 464) (by decide +kernel), List.mem_of_getElem? (i := 584) (by decide +kernel), List.mem_of_getElem? (i := 585) (by decide +kernel)⟩
theorem lw_p13 : lw_okq (⟨"SwornVaneModel", "isHour", "(I)Z"⟩, 32) := ⟨⟨by decide +kernel, by decide +kernel⟩, List.mem_of_getElem? (i := 464) (by decide +kernel), List.mem_of_getElem? (i := 599) (by decide +kernel), List.mem_of_getElem? (i := 600) (by decide +kernel)⟩
theorem lw_p14 : lw_okq (⟨"SwornVaneModel", "isVane", "(I)Z"⟩, 32) := ⟨⟨by decide +kernel, by decide +kernel⟩, List.mem_of_getElem? (i := 464) (by decide +kernel), List.mem_of_getElem? (i := 614) (by decide +kernel), List.mem_of_getElem? (i := 615) (by decide +kernel)⟩
theorem lw_p15 : lw_okq (⟨"SwornVaneModel", "vaneNow", "(II)I"⟩, 32) := ⟨⟨by decide +kernel, by decide +kernel⟩, List.mem_of_getElem? (i := 464) (by decide +kernel), List.mem_of_getElem? (i := 618) (by decide +kernel), List.mem_of_getElem? (i := 619) (by decide +kernel)⟩
def lw_privs_1 : List (MethodName × Nat) := [(⟨"SwornVane$Tally", "walk", "(II)I"⟩, 5), (⟨"SwornVane$Tally", "note", "(IIII)V"⟩, 5), (⟨"SwornVane", "isInquiryClosed", "()Z"⟩, 8), (⟨"SwornVane", "fewestWitnesses", "(I)I"⟩, 8), (⟨"SwornVane$Witnesses", "isTold", "(I)Z"⟩, 5), (⟨"SwornVane$Witnesses", "isOneWind", "(I)Z"⟩, 5), (⟨"SwornVane$Witnesses", "fillNext", "(II)I"⟩, 5), (⟨"SwornVane$Witnesses", "blow", "(II)V"⟩, 5), (⟨"SwornVane", "possibleSorts", "(I)I"⟩, 8), (⟨"SwornVane$Hill", "canFit", "(II)Z"⟩, 9), (⟨"SwornVane", "fewestToOil", "(II)I"⟩, 8), (⟨"SwornVane", "digestOfVane", "(JI)J"⟩, 8), (⟨"SwornVaneModel", "faultNow", "()I"⟩, 32), (⟨"SwornVaneModel", "isHour", "(I)Z"⟩, 32), (⟨"SwornVaneModel", "isVane", "(I)Z"⟩, 32), (⟨"SwornVaneModel", "vaneNow", "(II)I"⟩, 32)]
theorem lw_r1 : ∀ q ∈ lw_privs_1, lw_okq q := List.forall_mem_cons.mpr ⟨lw_p0, List.forall_mem_cons.mpr ⟨lw_p1, List.forall_mem_cons.mpr ⟨lw_p2, List.forall_mem_cons.mpr ⟨lw_p3, List.forall_mem_cons.mpr ⟨lw_p4, List.forall_mem_cons.mpr ⟨lw_p5, List.forall_mem_cons.mpr ⟨lw_p6, List.forall_mem_cons.mpr ⟨lw_p7, List.forall_mem_cons.mpr ⟨lw_p8, List.forall_mem_cons.mpr ⟨lw_p9, List.forall_mem_cons.mpr ⟨lw_p10, List.forall_mem_cons.mpr ⟨lw_p11, List.forall_mem_cons.mpr ⟨lw_p12, List.forall_mem_cons.mpr ⟨lw_p13, List.forall_mem_cons.mpr ⟨lw_p14, List.forall_mem_cons.mpr ⟨lw_p15, fun _ h => absurd h List.not_mem_nil⟩⟩⟩⟩⟩⟩⟩⟩⟩⟩⟩⟩⟩⟩⟩⟩
theorem lw_p16 : lw_okq (⟨"SwornVaneModel", "seenOf", "(I)I"⟩, 32) := ⟨⟨by decide +kernel, by decide +kernel⟩, List.mem_of_getElem? (i := 464) (by decide +kernel), List.mem_of_getElem? (i := 622) (by decide +kernel), List.mem_of_getElem? (i := 623) (by decide +kernel)⟩
theorem lw_p17 : lw_okq (⟨"SwornVaneModel", "fittingNow", "()I"⟩, 32) := ⟨⟨by decide +kernel, by decide +kernel⟩, List.mem_of_getElem? (i := 464) (by decide +kernel), List.mem_of_getElem? (i := 652) (by decide +kernel), List.mem_of_getElem? (i := 653) (by decide +kernel)⟩
theorem lw_p18 : lw_okq (⟨"SwornVaneModel", "codes", "()I"⟩, 32) := ⟨⟨by decide +kernel, by decide +kernel⟩, List.mem_of_getElem? (i := 464) (by decide +kernel), List.mem_of_getElem? (i := 656) (by decide +kernel), List.mem_of_getElem? (i := 657) (by decide +kernel)⟩
theorem lw_p19 : lw_okq (⟨"SwornVaneModel", "unknownHours", "()I"⟩, 32) := ⟨⟨by decide +kernel, by decide +kernel⟩, List.mem_of_getElem? (i := 464) (by decide +kernel), List.mem_of_getElem? (i := 660) (by decide +kernel), List.mem_of_getElem? (i := 661) (by decide +kernel)⟩
theorem lw_p20 : lw_okq (⟨"SwornVaneModel", "fits", "(I)Z"⟩, 32) := ⟨⟨by decide +kernel, by decide +kernel⟩, List.mem_of_getElem? (i := 464) (by decide +kernel), List.mem_of_getElem? (i := 664) (by decide +kernel), List.mem_of_getElem? (i := 665) (by decide +kernel)⟩
theorem lw_p21 : lw_okq (⟨"SwornVaneModel", "layDay", "(I)V"⟩, 32) := ⟨⟨by decide +kernel, by decide +kernel⟩, List.mem_of_getElem? (i := 464) (by decide +kernel), List.mem_of_getElem? (i := 668) (by decide +kernel), List.mem_of_getElem? (i := 669) (by decide +kernel)⟩
theorem lw_p22 : lw_okq (⟨"SwornVaneModel", "layVane", "(I)V"⟩, 32) := ⟨⟨by decide +kernel, by decide +kernel⟩, List.mem_of_getElem? (i := 464) (by decide +kernel), List.mem_of_getElem? (i := 672) (by decide +kernel), List.mem_of_getElem? (i := 673) (by decide +kernel)⟩
theorem lw_p23 : lw_okq (⟨"SwornVaneModel", "pointsNow", "(II)I"⟩, 32) := ⟨⟨by decide +kernel, by decide +kernel⟩, List.mem_of_getElem? (i := 464) (by decide +kernel), List.mem_of_getElem? (i := 680) (by decide +kernel), List.mem_of_getElem? (i := 681) (by decide +kernel)⟩
theorem lw_p24 : lw_okq (⟨"SwornVaneModel", "blowsNow", "(I)I"⟩, 32) := ⟨⟨by decide +kernel, by decide +kernel⟩, List.mem_of_getElem? (i := 464) (by decide +kernel), List.mem_of_getElem? (i := 688) (by decide +kernel), List.mem_of_getElem? (i := 689) (by decide +kernel)⟩
theorem lw_p25 : lw_okq (⟨"SwornVaneModel", "mayAsk", "()Z"⟩, 32) := ⟨⟨by decide +kernel, by decide +kernel⟩, List.mem_of_getElem? (i := 464) (by decide +kernel), List.mem_of_getElem? (i := 696) (by decide +kernel), List.mem_of_getElem? (i := 697) (by decide +kernel)⟩
theorem lw_p26 : lw_okq (⟨"SwornVaneModel", "askNow", "(I)I"⟩, 32) := ⟨⟨by decide +kernel, by decide +kernel⟩, List.mem_of_getElem? (i := 464) (by decide +kernel), List.mem_of_getElem? (i := 700) (by decide +kernel), List.mem_of_getElem? (i := 701) (by decide +kernel)⟩
theorem lw_p27 : lw_okq (⟨"SwornVaneModel", "layParts", "()I"⟩, 32) := ⟨⟨by decide +kernel, by decide +kernel⟩, List.mem_of_getElem? (i := 464) (by decide +kernel), List.mem_of_getElem? (i := 704) (by decide +kernel), List.mem_of_getElem? (i := 705) (by decide +kernel)⟩
theorem lw_p28 : lw_okq (⟨"SwornVaneModel", "worstOf", "(I)I"⟩, 32) := ⟨⟨by decide +kernel, by decide +kernel⟩, List.mem_of_getElem? (i := 464) (by decide +kernel), List.mem_of_getElem? (i := 708) (by decide +kernel), List.mem_of_getElem? (i := 709) (by decide +kernel)⟩
theorem lw_p29 : lw_okq (⟨"SwornVaneModel", "proofNow", "(II)I"⟩, 32) := ⟨⟨by decide +kernel, by decide +kernel⟩, List.mem_of_getElem? (i := 464) (by decide +kernel), List.mem_of_getElem? (i := 716) (by decide +kernel), List.mem_of_getElem? (i := 717) (by decide +kernel)⟩
theorem lw_p30 : lw_okq (⟨"SwornVaneModel", "proves", "(II)Z"⟩, 32) := ⟨⟨by decide +kernel, by decide +kernel⟩, List.mem_of_getElem? (i := 464) (by decide +kernel), List.mem_of_getElem? (i := 723) (by decide +kernel), List.mem_of_getElem? (i := 724) (by decide +kernel)⟩
theorem lw_p31 : lw_okq (⟨"SwornVaneModel", "signOf", "(I)J"⟩, 32) := ⟨⟨by decide +kernel, by decide +kernel⟩, List.mem_of_getElem? (i := 464) (by decide +kernel), List.mem_of_getElem? (i := 727) (by decide +kernel), List.mem_of_getElem? (i := 728) (by decide +kernel)⟩
def lw_privs_2 : List (MethodName × Nat) := [(⟨"SwornVaneModel", "seenOf", "(I)I"⟩, 32), (⟨"SwornVaneModel", "fittingNow", "()I"⟩, 32), (⟨"SwornVaneModel", "codes", "()I"⟩, 32), (⟨"SwornVaneModel", "unknownHours", "()I"⟩, 32), (⟨"SwornVaneModel", "fits", "(I)Z"⟩, 32), (⟨"SwornVaneModel", "layDay", "(I)V"⟩, 32), (⟨"SwornVaneModel", "layVane", "(I)V"⟩, 32), (⟨"SwornVaneModel", "pointsNow", "(II)I"⟩, 32), (⟨"SwornVaneModel", "blowsNow", "(I)I"⟩, 32), (⟨"SwornVaneModel", "mayAsk", "()Z"⟩, 32), (⟨"SwornVaneModel", "askNow", "(I)I"⟩, 32), (⟨"SwornVaneModel", "layParts", "()I"⟩, 32), (⟨"SwornVaneModel", "worstOf", "(I)I"⟩, 32), (⟨"SwornVaneModel", "proofNow", "(II)I"⟩, 32), (⟨"SwornVaneModel", "proves", "(II)Z"⟩, 32), (⟨"SwornVaneModel", "signOf", "(I)J"⟩, 32)]
theorem lw_r2 : ∀ q ∈ lw_privs_2, lw_okq q := List.forall_mem_cons.mpr ⟨lw_p16, List.forall_mem_cons.mpr ⟨lw_p17, List.forall_mem_cons.mpr ⟨lw_p18, List.forall_mem_cons.mpr ⟨lw_p19, List.forall_mem_cons.mpr ⟨lw_p20, List.forall_mem_cons.mpr ⟨lw_p21, List.forall_mem_cons.mpr ⟨lw_p22, List.forall_mem_cons.mpr ⟨lw_p23, List.forall_mem_cons.mpr ⟨lw_p24, List.forall_mem_cons.mpr ⟨lw_p25, List.forall_mem_cons.mpr ⟨lw_p26, List.forall_mem_cons.mpr ⟨lw_p27, List.forall_mem_cons.mpr ⟨lw_p28, List.forall_mem_cons.mpr ⟨lw_p29, List.forall_mem_cons.mpr ⟨lw_p30, List.forall_mem_cons.mpr ⟨lw_p31, fun _ h => absurd h List.not_mem_nil⟩⟩⟩⟩⟩⟩⟩⟩⟩⟩⟩⟩⟩⟩⟩⟩
theorem lw_p32 : lw_okq (⟨"SwornVaneModel", "placeOf", "(J)I"⟩, 32) := ⟨⟨by decide +kernel, by decide +kernel⟩, List.mem_of_getElem? (i := 464) (by decide +kernel), List.mem_of_getElem? (i := 732) (by decide +kernel), List.mem_of_getElem? (i := 733) (by decide +kernel)⟩
theorem lw_p33 : lw_okq (⟨"SwornVaneModel", "sortsNow", "(II)I"⟩, 32) := ⟨⟨by decide +kernel, by decide +kernel⟩, List.mem_of_getElem? (i := 464) (by decide +kernel), List.mem_of_getElem? (i := 742) (by decide +kernel), List.mem_of_getElem? (i := 743) (by decide +kernel)⟩
theorem lw_p34 : lw_okq (⟨"SwornVaneModel", "anyFits", "()Z"⟩, 32) := ⟨⟨by decide +kernel, by decide +kernel⟩, List.mem_of_getElem? (i := 464) (by decide +kernel), List.mem_of_getElem? (i := 746) (by decide +kernel), List.mem_of_getElem? (i := 747) (by decide +kernel)⟩
theorem lw_p35 : lw_okq (⟨"SwornVaneModel", "isKnownTill", "(I)Z"⟩, 32) := ⟨⟨by decide +kernel, by decide +kernel⟩, List.mem_of_getElem? (i := 464) (by decide +kernel), List.mem_of_getElem? (i := 754) (by decide +kernel), List.mem_of_getElem? (i := 755) (by decide +kernel)⟩
theorem lw_p36 : lw_okq (⟨"SwornVaneModel", "oilingNow", "(III)I"⟩, 32) := ⟨⟨by decide +kernel, by decide +kernel⟩, List.mem_of_getElem? (i := 464) (by decide +kernel), List.mem_of_getElem? (i := 758) (by decide +kernel), List.mem_of_getElem? (i := 759) (by decide +kernel)⟩
theorem lw_p37 : lw_okq (⟨"SwornVaneModel", "canBy", "(III)Z"⟩, 32) := ⟨⟨by decide +kernel, by decide +kernel⟩, List.mem_of_getElem? (i := 464) (by decide +kernel), List.mem_of_getElem? (i := 762) (by decide +kernel), List.mem_of_getElem? (i := 763) (by decide +kernel)⟩
theorem lw_p38 : lw_okq (⟨"SwornVaneModel", "pointBy", "(III)I"⟩, 32) := ⟨⟨by decide +kernel, by decide +kernel⟩, List.mem_of_getElem? (i := 464) (by decide +kernel), List.mem_of_getElem? (i := 766) (by decide +kernel), List.mem_of_getElem? (i := 767) (by decide +kernel)⟩
theorem lw_p39 : lw_okq (⟨"SwornVaneModel", "gustsNow", "(III)I"⟩, 32) := ⟨⟨by decide +kernel, by decide +kernel⟩, List.mem_of_getElem? (i := 464) (by decide +kernel), List.mem_of_getElem? (i := 774) (by decide +kernel), List.mem_of_getElem? (i := 775) (by decide +kernel)⟩
theorem lw_p40 : lw_okq (⟨"SwornVaneModel", "goDay", "()I"⟩, 32) := ⟨⟨by decide +kernel, by decide +kernel⟩, List.mem_of_getElem? (i := 464) (by decide +kernel), List.mem_of_getElem? (i := 778) (by decide +kernel), List.mem_of_getElem? (i := 779) (by decide +kernel)⟩
theorem lw_p41 : lw_okq (⟨"SwornVaneModel", "draw", "(I)I"⟩, 32) := ⟨⟨by decide +kernel, by decide +kernel⟩, List.mem_of_getElem? (i := 464) (by decide +kernel), List.mem_of_getElem? (i := 782) (by decide +kernel), List.mem_of_getElem? (i := 783) (by decide +kernel)⟩
theorem lw_p42 : lw_okq (⟨"SwornVaneModel", "howMany", "(I)I"⟩, 32) := ⟨⟨by decide +kernel, by decide +kernel⟩, List.mem_of_getElem? (i := 464) (by decide +kernel), List.mem_of_getElem? (i := 802) (by decide +kernel), List.mem_of_getElem? (i := 803) (by decide +kernel)⟩
theorem lw_p43 : lw_okq (⟨"SwornVaneModel", "mixVane", "(I)V"⟩, 32) := ⟨⟨by decide +kernel, by decide +kernel⟩, List.mem_of_getElem? (i := 464) (by decide +kernel), List.mem_of_getElem? (i := 811) (by decide +kernel), List.mem_of_getElem? (i := 812) (by decide +kernel)⟩
theorem lw_p44 : lw_okq (⟨"SwornVaneModel", "mix", "(J)V"⟩, 32) := ⟨⟨by decide +kernel, by decide +kernel⟩, List.mem_of_getElem? (i := 464) (by decide +kernel), List.mem_of_getElem? (i := 815) (by decide +kernel), List.mem_of_getElem? (i := 816) (by decide +kernel)⟩
def lw_privs_3 : List (MethodName × Nat) := [(⟨"SwornVaneModel", "placeOf", "(J)I"⟩, 32), (⟨"SwornVaneModel", "sortsNow", "(II)I"⟩, 32), (⟨"SwornVaneModel", "anyFits", "()Z"⟩, 32), (⟨"SwornVaneModel", "isKnownTill", "(I)Z"⟩, 32), (⟨"SwornVaneModel", "oilingNow", "(III)I"⟩, 32), (⟨"SwornVaneModel", "canBy", "(III)Z"⟩, 32), (⟨"SwornVaneModel", "pointBy", "(III)I"⟩, 32), (⟨"SwornVaneModel", "gustsNow", "(III)I"⟩, 32), (⟨"SwornVaneModel", "goDay", "()I"⟩, 32), (⟨"SwornVaneModel", "draw", "(I)I"⟩, 32), (⟨"SwornVaneModel", "howMany", "(I)I"⟩, 32), (⟨"SwornVaneModel", "mixVane", "(I)V"⟩, 32), (⟨"SwornVaneModel", "mix", "(J)V"⟩, 32)]
theorem lw_r3 : ∀ q ∈ lw_privs_3, lw_okq q := List.forall_mem_cons.mpr ⟨lw_p32, List.forall_mem_cons.mpr ⟨lw_p33, List.forall_mem_cons.mpr ⟨lw_p34, List.forall_mem_cons.mpr ⟨lw_p35, List.forall_mem_cons.mpr ⟨lw_p36, List.forall_mem_cons.mpr ⟨lw_p37, List.forall_mem_cons.mpr ⟨lw_p38, List.forall_mem_cons.mpr ⟨lw_p39, List.forall_mem_cons.mpr ⟨lw_p40, List.forall_mem_cons.mpr ⟨lw_p41, List.forall_mem_cons.mpr ⟨lw_p42, List.forall_mem_cons.mpr ⟨lw_p43, List.forall_mem_cons.mpr ⟨lw_p44, fun _ h => absurd h List.not_mem_nil⟩⟩⟩⟩⟩⟩⟩⟩⟩⟩⟩⟩⟩
def lw_privs : List (MethodName × Nat) := lw_privs_1 ++ (lw_privs_2 ++ (lw_privs_3))
def lw_tbl : List Cond := k2_sels lw_privs ++ tables_1
theorem lw_privs_ok : ∀ q ∈ lw_privs, lw_okq q := by
  show ∀ q ∈ lw_privs_1 ++ (lw_privs_2 ++ (lw_privs_3)), lw_okq q
  exact List.forall_mem_append.mpr ⟨lw_r1, List.forall_mem_append.mpr ⟨lw_r2, lw_r3⟩⟩
-- ===== end of PART A; then your names; then what follows =====
def RX0 : String := "SwornVane$Hill"
def TX0 : u_T := fun k => match k with
  | 0 => ("SwornVane$Hill", "hours", "I", false)
  | 1 => ("SwornVane$Hill", "winds", "[I", true)
  | 2 => ("SwornVane$Hill", "vanes", "I", false)
  | 3 => ("SwornVane$Hill", "kinds", "[I", true)
  | 4 => ("SwornVane$Hill", "starts", "[I", true)
  | 5 => ("SwornVane$Hill", "twists", "[I", true)
  | 6 => ("SwornVane$Hill", "seen", "I", false)
  | 7 => ("SwornVane$Hill", "seenOf", "[I", true)
  | _ => ("SwornVane$Hill", "left", "[I", true)
def tyX0 : Nat → FieldType := fun k => match k with
  | 0 => .int
  | 1 => .array .int
  | 2 => .int
  | 3 => .array .int
  | 4 => .array .int
  | 5 => .array .int
  | 6 => .int
  | 7 => .array .int
  | _ => .array .int
abbrev wsX00 : List Cond := u_ws RX0 TX0 9
theorem nmX0 : ∀ a, a < 9 → ∀ b, b < 9 → a ≠ b → (TX0 a).2.1 ≠ (TX0 b).2.1 := by decide +kernel
theorem tyX0_ok : ∀ k, k < 9 → parseFieldDescriptor (TX0 k).2.2.1 = some (tyX0 k) := by decide +kernel
abbrev cX0_init : ByteArray := prog_2_method_1_code
def yX0_init : MethodName := ⟨RX0, "<init>", "()V"⟩
abbrev cX0_hasHour : ByteArray := prog_2_method_2_code
def yX0_hasHour : MethodName := ⟨RX0, "hasHour", "(I)Z"⟩
abbrev cX0_hasVane : ByteArray := prog_2_method_3_code
def yX0_hasVane : MethodName := ⟨RX0, "hasVane", "(I)Z"⟩
abbrev cX0_begin : ByteArray := prog_2_method_4_code
def yX0_begin : MethodName := ⟨RX0, "begin", "(LSwornVane$Page;)V"⟩
abbrev cX0_raise : ByteArray := prog_2_method_5_code
def yX0_raise : MethodName := ⟨RX0, "raise", "(III)V"⟩
abbrev cX0_witness : ByteArray := prog_2_method_6_code
def yX0_witness : MethodName := ⟨RX0, "witness", "(III)V"⟩
abbrev cX0_clearSeen : ByteArray := prog_2_method_7_code
def yX0_clearSeen : MethodName := ⟨RX0, "clearSeen", "()V"⟩
abbrev cX0_become : ByteArray := prog_2_method_8_code
def yX0_become : MethodName := ⟨RX0, "become", "(LSwornVane$Hill;)V"⟩
abbrev cX0_knownWinds : ByteArray := prog_2_method_9_code
def yX0_knownWinds : MethodName := ⟨RX0, "knownWinds", "()I"⟩
abbrev cX0_isKnownUntil : ByteArray := prog_2_method_10_code
def yX0_isKnownUntil : MethodName := ⟨RX0, "isKnownUntil", "(I)Z"⟩
abbrev cX0_mayBlow : ByteArray := prog_2_method_11_code
def yX0_mayBlow : MethodName := ⟨RX0, "mayBlow", "(II)Z"⟩
abbrev cX0_turned : ByteArray := prog_2_method_12_code
def yX0_turned : MethodName := ⟨RX0, "turned", "(IIII)I"⟩
abbrev cX0_startPose : ByteArray := prog_2_method_13_code
def yX0_startPose : MethodName := ⟨RX0, "startPose", "()I"⟩
abbrev cX0_turnedPose : ByteArray := prog_2_method_14_code
def yX0_turnedPose : MethodName := ⟨RX0, "turnedPose", "(II)I"⟩
abbrev cX0_agrees : ByteArray := prog_2_method_15_code
def yX0_agrees : MethodName := ⟨RX0, "agrees", "(II)Z"⟩
abbrev cX0_hasFitting : ByteArray := prog_2_method_16_code
def yX0_hasFitting : MethodName := ⟨RX0, "hasFitting", "()Z"⟩
abbrev cX0_canFit : ByteArray := prog_2_method_17_code
def yX0_canFit : MethodName := ⟨RX0, "canFit", "(II)Z"⟩
abbrev cX0_pointWith : ByteArray := prog_2_method_18_code
def yX0_pointWith : MethodName := ⟨RX0, "pointWith", "(III)I"⟩
abbrev cX0_pointingAt : ByteArray := prog_2_method_19_code
def yX0_pointingAt : MethodName := ⟨RX0, "pointingAt", "(II)I"⟩
abbrev cX0_isMoreThanHalf : ByteArray := prog_2_method_20_code
def yX0_isMoreThanHalf : MethodName := ⟨RX0, "isMoreThanHalf", "(I)Z"⟩
def RX1 : String := "SwornVane$Page"
def TX1 : u_T := fun k => match k with
  | 0 => ("SwornVane$Page", "codes", "[I", true)
  | _ => ("SwornVane$Page", "length", "I", false)
def tyX1 : Nat → FieldType := fun k => match k with
  | 0 => .array .int
  | _ => .int
abbrev wsX10 : List Cond := u_ws RX1 TX1 2
theorem nmX1 : ∀ a, a < 2 → ∀ b, b < 2 → a ≠ b → (TX1 a).2.1 ≠ (TX1 b).2.1 := by decide +kernel
theorem tyX1_ok : ∀ k, k < 2 → parseFieldDescriptor (TX1 k).2.2.1 = some (tyX1 k) := by decide +kernel
abbrev cX1_init : ByteArray := prog_3_method_1_code
def yX1_init : MethodName := ⟨RX1, "<init>", "()V"⟩
abbrev cX1_add : ByteArray := prog_3_method_2_code
def yX1_add : MethodName := ⟨RX1, "add", "(I)Z"⟩
abbrev cX1_firstFault : ByteArray := prog_3_method_3_code
def yX1_firstFault : MethodName := ⟨RX1, "firstFault", "()I"⟩
abbrev cX1_isOfDay : ByteArray := prog_3_method_4_code
def yX1_isOfDay : MethodName := ⟨RX1, "isOfDay", "(I)Z"⟩
abbrev cX1_windOf : ByteArray := prog_3_method_5_code
def yX1_windOf : MethodName := ⟨RX1, "windOf", "(I)I"⟩
def RX2 : String := "SwornVane$Tally"
def TX2 : u_T := fun k => match k with
  | 0 => ("SwornVane$Tally", "hill", "LSwornVane$Hill;", true)
  | 1 => ("SwornVane$Tally", "poses", "[I", true)
  | 2 => ("SwornVane$Tally", "gales", "[I", true)
  | 3 => ("SwornVane$Tally", "all", "I", false)
  | _ => ("SwornVane$Tally", "isStale", "Z", false)
def tyX2 : Nat → FieldType := fun k => match k with
  | 0 => .object "SwornVane$Hill"
  | 1 => .array .int
  | 2 => .array .int
  | 3 => .int
  | _ => .boolean
abbrev wsX20 : List Cond := u_ws RX2 TX2 5
theorem nmX2 : ∀ a, a < 5 → ∀ b, b < 5 → a ≠ b → (TX2 a).2.1 ≠ (TX2 b).2.1 := by decide +kernel
theorem tyX2_ok : ∀ k, k < 5 → parseFieldDescriptor (TX2 k).2.2.1 = some (tyX2 k) := by decide +kernel
abbrev cX2_init : ByteArray := prog_4_method_1_code
def yX2_init : MethodName := ⟨RX2, "<init>", "(LSwornVane$Hill;)V"⟩
abbrev cX2_refresh : ByteArray := prog_4_method_2_code
def yX2_refresh : MethodName := ⟨RX2, "refresh", "()V"⟩
abbrev cX2_walk : ByteArray := prog_4_method_3_code
def yX2_walk : MethodName := ⟨RX2, "walk", "(II)I"⟩
abbrev cX2_note : ByteArray := prog_4_method_4_code
def yX2_note : MethodName := ⟨RX2, "note", "(IIII)V"⟩
abbrev cX2_pointed : ByteArray := prog_4_method_5_code
def yX2_pointed : MethodName := ⟨RX2, "pointed", "(II)I"⟩
abbrev cX2_blown : ByteArray := prog_4_method_6_code
def yX2_blown : MethodName := ⟨RX2, "blown", "(I)I"⟩
abbrev cX2_bitsOf : ByteArray := prog_4_method_7_code
def yX2_bitsOf : MethodName := ⟨RX2, "bitsOf", "([II)I"⟩
abbrev cX2_worst : ByteArray := prog_4_method_8_code
def yX2_worst : MethodName := ⟨RX2, "worst", "(II)I"⟩
abbrev cX2_bestPlace : ByteArray := prog_4_method_9_code
def yX2_bestPlace : MethodName := ⟨RX2, "bestPlace", "()I"⟩
def RX3 : String := "SwornVane$Witnesses"
def TX3 : u_T := fun k => match k with
  | 0 => ("SwornVane$Witnesses", "hill", "LSwornVane$Hill;", true)
  | 1 => ("SwornVane$Witnesses", "groups", "[[I", true)
  | 2 => ("SwornVane$Witnesses", "sizes", "[I", true)
  | 3 => ("SwornVane$Witnesses", "asked", "I", false)
  | _ => ("SwornVane$Witnesses", "bits", "I", false)
def tyX3 : Nat → FieldType := fun k => match k with
  | 0 => .object "SwornVane$Hill"
  | 1 => .array (.array .int)
  | 2 => .array .int
  | 3 => .int
  | _ => .int
abbrev wsX30 : List Cond := u_ws RX3 TX3 5
theorem nmX3 : ∀ a, a < 5 → ∀ b, b < 5 → a ≠ b → (TX3 a).2.1 ≠ (TX3 b).2.1 := by decide +kernel
theorem tyX3_ok : ∀ k, k < 5 → parseFieldDescriptor (TX3 k).2.2.1 = some (tyX3 k) := by decide +kernel
abbrev cX3_init : ByteArray := prog_5_method_1_code
def yX3_init : MethodName := ⟨RX3, "<init>", "(LSwornVane$Hill;)V"⟩
abbrev cX3_tell : ByteArray := prog_5_method_2_code
def yX3_tell : MethodName := ⟨RX3, "tell", "(II)Z"⟩
abbrev cX3_isTold : ByteArray := prog_5_method_3_code
def yX3_isTold : MethodName := ⟨RX3, "isTold", "(I)Z"⟩
abbrev cX3_isOneWind : ByteArray := prog_5_method_4_code
def yX3_isOneWind : MethodName := ⟨RX3, "isOneWind", "(I)Z"⟩
abbrev cX3_fillNext : ByteArray := prog_5_method_5_code
def yX3_fillNext : MethodName := ⟨RX3, "fillNext", "(II)I"⟩
abbrev cX3_blow : ByteArray := prog_5_method_6_code
def yX3_blow : MethodName := ⟨RX3, "blow", "(II)V"⟩
def RX4 : String := "SwornVane"
def TX4 : u_T := fun k => match k with
  | 0 => ("SwornVane", "page", "LSwornVane$Page;", true)
  | 1 => ("SwornVane", "hill", "LSwornVane$Hill;", true)
  | 2 => ("SwornVane", "kept", "LSwornVane$Hill;", true)
  | 3 => ("SwornVane", "tally", "LSwornVane$Tally;", true)
  | 4 => ("SwornVane", "witnesses", "LSwornVane$Witnesses;", true)
  | 5 => ("SwornVane", "isKept", "Z", false)
  | 6 => ("SwornVane", "readings", "I", false)
  | _ => ("SwornVane", "inquiries", "I", false)
def tyX4 : Nat → FieldType := fun k => match k with
  | 0 => .object "SwornVane$Page"
  | 1 => .object "SwornVane$Hill"
  | 2 => .object "SwornVane$Hill"
  | 3 => .object "SwornVane$Tally"
  | 4 => .object "SwornVane$Witnesses"
  | 5 => .boolean
  | 6 => .int
  | _ => .int
abbrev wsX40 : List Cond := u_ws RX4 TX4 8
theorem nmX4 : ∀ a, a < 8 → ∀ b, b < 8 → a ≠ b → (TX4 a).2.1 ≠ (TX4 b).2.1 := by decide +kernel
theorem tyX4_ok : ∀ k, k < 8 → parseFieldDescriptor (TX4 k).2.2.1 = some (tyX4 k) := by decide +kernel
abbrev cX4_init : ByteArray := prog_1_method_1_code
def yX4_init : MethodName := ⟨RX4, "<init>", "()V"⟩
abbrev cX4_letter : ByteArray := prog_1_method_2_code
def yX4_letter : MethodName := ⟨RX4, "letter", "(I)I"⟩
abbrev cX4_blank : ByteArray := prog_1_method_3_code
def yX4_blank : MethodName := ⟨RX4, "blank", "()I"⟩
abbrev cX4_fault : ByteArray := prog_1_method_4_code
def yX4_fault : MethodName := ⟨RX4, "fault", "()I"⟩
abbrev cX4_day : ByteArray := prog_1_method_5_code
def yX4_day : MethodName := ⟨RX4, "day", "()I"⟩
abbrev cX4_wind : ByteArray := prog_1_method_6_code
def yX4_wind : MethodName := ⟨RX4, "wind", "(II)I"⟩
abbrev cX4_vane : ByteArray := prog_1_method_7_code
def yX4_vane : MethodName := ⟨RX4, "vane", "(III)I"⟩
abbrev cX4_about : ByteArray := prog_1_method_8_code
def yX4_about : MethodName := ⟨RX4, "about", "(II)I"⟩
abbrev cX4_as : ByteArray := prog_1_method_9_code
def yX4_as : MethodName := ⟨RX4, "as", "(II)I"⟩
abbrev cX4_oil : ByteArray := prog_1_method_10_code
def yX4_oil : MethodName := ⟨RX4, "oil", "(II)I"⟩
abbrev cX4_see : ByteArray := prog_1_method_11_code
def yX4_see : MethodName := ⟨RX4, "see", "(III)I"⟩
abbrev cX4_forget : ByteArray := prog_1_method_12_code
def yX4_forget : MethodName := ⟨RX4, "forget", "()I"⟩
abbrev cX4_fitting : ByteArray := prog_1_method_13_code
def yX4_fitting : MethodName := ⟨RX4, "fitting", "()I"⟩
abbrev cX4_points : ByteArray := prog_1_method_14_code
def yX4_points : MethodName := ⟨RX4, "points", "(II)I"⟩
abbrev cX4_blows : ByteArray := prog_1_method_15_code
def yX4_blows : MethodName := ⟨RX4, "blows", "(I)I"⟩
abbrev cX4_ask : ByteArray := prog_1_method_16_code
def yX4_ask : MethodName := ⟨RX4, "ask", "(I)I"⟩
abbrev cX4_proof : ByteArray := prog_1_method_17_code
def yX4_proof : MethodName := ⟨RX4, "proof", "(II)I"⟩
abbrev cX4_sorts : ByteArray := prog_1_method_18_code
def yX4_sorts : MethodName := ⟨RX4, "sorts", "(II)I"⟩
abbrev cX4_oiling : ByteArray := prog_1_method_19_code
def yX4_oiling : MethodName := ⟨RX4, "oiling", "(III)I"⟩
abbrev cX4_gusts : ByteArray := prog_1_method_20_code
def yX4_gusts : MethodName := ⟨RX4, "gusts", "(III)I"⟩
abbrev cX4_image : ByteArray := prog_1_method_21_code
def yX4_image : MethodName := ⟨RX4, "image", "()I"⟩
abbrev cX4_restore : ByteArray := prog_1_method_22_code
def yX4_restore : MethodName := ⟨RX4, "restore", "()I"⟩
abbrev cX4_count : ByteArray := prog_1_method_23_code
def yX4_count : MethodName := ⟨RX4, "count", "(I)I"⟩
abbrev cX4_digest : ByteArray := prog_1_method_24_code
def yX4_digest : MethodName := ⟨RX4, "digest", "()J"⟩
abbrev cX4_digestOfVane : ByteArray := prog_1_method_25_code
def yX4_digestOfVane : MethodName := ⟨RX4, "digestOfVane", "(JI)J"⟩
abbrev cX4_isInquiryClosed : ByteArray := prog_1_method_26_code
def yX4_isInquiryClosed : MethodName := ⟨RX4, "isInquiryClosed", "()Z"⟩
abbrev cX4_fewestWitnesses : ByteArray := prog_1_method_27_code
def yX4_fewestWitnesses : MethodName := ⟨RX4, "fewestWitnesses", "(I)I"⟩
abbrev cX4_possibleSorts : ByteArray := prog_1_method_28_code
def yX4_possibleSorts : MethodName := ⟨RX4, "possibleSorts", "(I)I"⟩
abbrev cX4_leastOf : ByteArray := prog_1_method_29_code
def yX4_leastOf : MethodName := ⟨RX4, "leastOf", "(I)I"⟩
abbrev cX4_fewestToOil : ByteArray := prog_1_method_30_code
def yX4_fewestToOil : MethodName := ⟨RX4, "fewestToOil", "(II)I"⟩
abbrev cX4_isFewer : ByteArray := prog_1_method_31_code
def yX4_isFewer : MethodName := ⟨RX4, "isFewer", "(II)Z"⟩
abbrev cX4_sizeOrSet : ByteArray := prog_1_method_32_code
def yX4_sizeOrSet : MethodName := ⟨RX4, "sizeOrSet", "(II)I"⟩
abbrev cX4_isQuarter : ByteArray := prog_1_method_33_code
def yX4_isQuarter : MethodName := ⟨RX4, "isQuarter", "(I)Z"⟩
abbrev cX4_isTwist : ByteArray := prog_1_method_34_code
def yX4_isTwist : MethodName := ⟨RX4, "isTwist", "(I)Z"⟩
abbrev cX4_isKind : ByteArray := prog_1_method_35_code
def yX4_isKind : MethodName := ⟨RX4, "isKind", "(I)Z"⟩
abbrev cX4_isSuch : ByteArray := prog_1_method_36_code
def yX4_isSuch : MethodName := ⟨RX4, "isSuch", "(II)Z"⟩
abbrev cX4_nextSeed : ByteArray := prog_1_method_37_code
def yX4_nextSeed : MethodName := ⟨RX4, "nextSeed", "(I)I"⟩
def RX5 : String := "SwornVaneModel"
def TX5 : u_T := fun k => match k with
  | 0 => ("SwornVaneModel", "days", "I", false)
  | 1 => ("SwornVaneModel", "hours", "I", false)
  | 2 => ("SwornVaneModel", "windOf", "[I", true)
  | 3 => ("SwornVaneModel", "vanes", "I", false)
  | 4 => ("SwornVaneModel", "kindOf", "[I", true)
  | 5 => ("SwornVaneModel", "startOf", "[I", true)
  | 6 => ("SwornVaneModel", "twistOf", "[I", true)
  | 7 => ("SwornVaneModel", "seen", "I", false)
  | 8 => ("SwornVaneModel", "seenVane", "[I", true)
  | 9 => ("SwornVaneModel", "seenHour", "[I", true)
  | 10 => ("SwornVaneModel", "seenAt", "[I", true)
  | 11 => ("SwornVaneModel", "asks", "I", false)
  | 12 => ("SwornVaneModel", "pageLength", "I", false)
  | 13 => ("SwornVaneModel", "page", "[B", true)
  | 14 => ("SwornVaneModel", "blowsAt", "[I", true)
  | 15 => ("SwornVaneModel", "pointsAt", "[I", true)
  | 16 => ("SwornVaneModel", "partOf", "[I", true)
  | 17 => ("SwornVaneModel", "alikeOf", "[J", true)
  | 18 => ("SwornVaneModel", "alikeWind", "[I", true)
  | 19 => ("SwornVaneModel", "alikeRound", "[I", true)
  | 20 => ("SwornVaneModel", "round", "I", false)
  | 21 => ("SwornVaneModel", "seedNow", "J", false)
  | 22 => ("SwornVaneModel", "isKept", "Z", false)
  | 23 => ("SwornVaneModel", "keptDay", "I", false)
  | 24 => ("SwornVaneModel", "keptVanes", "I", false)
  | 25 => ("SwornVaneModel", "keptSeen", "I", false)
  | 26 => ("SwornVaneModel", "keptWind", "[I", true)
  | 27 => ("SwornVaneModel", "keptTwist", "[I", true)
  | 28 => ("SwornVaneModel", "keptSeenVane", "[I", true)
  | 29 => ("SwornVaneModel", "keptSeenHour", "[I", true)
  | 30 => ("SwornVaneModel", "keptSeenAt", "[I", true)
  | _ => ("SwornVaneModel", "h", "J", false)
def tyX5 : Nat → FieldType := fun k => match k with
  | 0 => .int
  | 1 => .int
  | 2 => .array .int
  | 3 => .int
  | 4 => .array .int
  | 5 => .array .int
  | 6 => .array .int
  | 7 => .int
  | 8 => .array .int
  | 9 => .array .int
  | 10 => .array .int
  | 11 => .int
  | 12 => .int
  | 13 => .array .byte
  | 14 => .array .int
  | 15 => .array .int
  | 16 => .array .int
  | 17 => .array .long
  | 18 => .array .int
  | 19 => .array .int
  | 20 => .int
  | 21 => .long
  | 22 => .boolean
  | 23 => .int
  | 24 => .int
  | 25 => .int
  | 26 => .array .int
  | 27 => .array .int
  | 28 => .array .int
  | 29 => .array .int
  | 30 => .array .int
  | _ => .long
abbrev wsX50 : List Cond := u_ws RX5 TX5 32
theorem nmX5 : ∀ a, a < 32 → ∀ b, b < 32 → a ≠ b → (TX5 a).2.1 ≠ (TX5 b).2.1 := by decide +kernel
theorem tyX5_ok : ∀ k, k < 32 → parseFieldDescriptor (TX5 k).2.2.1 = some (tyX5 k) := by decide +kernel
abbrev cX5_init : ByteArray := prog_7_method_1_code
def yX5_init : MethodName := ⟨RX5, "<init>", "()V"⟩
abbrev cX5_within : ByteArray := prog_7_method_3_code
def yX5_within : MethodName := ⟨RX5, "within", "(III)Z"⟩
abbrev cX5_isQuarter : ByteArray := prog_7_method_4_code
def yX5_isQuarter : MethodName := ⟨RX5, "isQuarter", "(I)Z"⟩
abbrev cX5_size : ByteArray := prog_7_method_5_code
def yX5_size : MethodName := ⟨RX5, "size", "(I)I"⟩
abbrev cX5_letter : ByteArray := prog_7_method_6_code
def yX5_letter : MethodName := ⟨RX5, "letter", "(I)I"⟩
abbrev cX5_blank : ByteArray := prog_7_method_7_code
def yX5_blank : MethodName := ⟨RX5, "blank", "()I"⟩
abbrev cX5_windBy : ByteArray := prog_7_method_8_code
def yX5_windBy : MethodName := ⟨RX5, "windBy", "(I)I"⟩
abbrev cX5_faultNow : ByteArray := prog_7_method_9_code
def yX5_faultNow : MethodName := ⟨RX5, "faultNow", "()I"⟩
abbrev cX5_fault : ByteArray := prog_7_method_10_code
def yX5_fault : MethodName := ⟨RX5, "fault", "()I"⟩
abbrev cX5_day : ByteArray := prog_7_method_11_code
def yX5_day : MethodName := ⟨RX5, "day", "()I"⟩
abbrev cX5_isHour : ByteArray := prog_7_method_12_code
def yX5_isHour : MethodName := ⟨RX5, "isHour", "(I)Z"⟩
abbrev cX5_isVane : ByteArray := prog_7_method_13_code
def yX5_isVane : MethodName := ⟨RX5, "isVane", "(I)Z"⟩
abbrev cX5_wind : ByteArray := prog_7_method_14_code
def yX5_wind : MethodName := ⟨RX5, "wind", "(II)I"⟩
abbrev cX5_rusted : ByteArray := prog_7_method_15_code
def yX5_rusted : MethodName := ⟨RX5, "rusted", "(II)I"⟩
abbrev cX5_turned : ByteArray := prog_7_method_16_code
def yX5_turned : MethodName := ⟨RX5, "turned", "(IIII)I"⟩
abbrev cX5_vane : ByteArray := prog_7_method_17_code
def yX5_vane : MethodName := ⟨RX5, "vane", "(III)I"⟩
abbrev cX5_seenOf : ByteArray := prog_7_method_18_code
def yX5_seenOf : MethodName := ⟨RX5, "seenOf", "(I)I"⟩
abbrev cX5_vaneNow : ByteArray := prog_7_method_19_code
def yX5_vaneNow : MethodName := ⟨RX5, "vaneNow", "(II)I"⟩
abbrev cX5_about : ByteArray := prog_7_method_20_code
def yX5_about : MethodName := ⟨RX5, "about", "(II)I"⟩
abbrev cX5_as : ByteArray := prog_7_method_21_code
def yX5_as : MethodName := ⟨RX5, "as", "(II)I"⟩
abbrev cX5_oil : ByteArray := prog_7_method_22_code
def yX5_oil : MethodName := ⟨RX5, "oil", "(II)I"⟩
abbrev cX5_see : ByteArray := prog_7_method_23_code
def yX5_see : MethodName := ⟨RX5, "see", "(III)I"⟩
abbrev cX5_forget : ByteArray := prog_7_method_24_code
def yX5_forget : MethodName := ⟨RX5, "forget", "()I"⟩
abbrev cX5_unknownHours : ByteArray := prog_7_method_25_code
def yX5_unknownHours : MethodName := ⟨RX5, "unknownHours", "()I"⟩
abbrev cX5_codes : ByteArray := prog_7_method_26_code
def yX5_codes : MethodName := ⟨RX5, "codes", "()I"⟩
abbrev cX5_layDay : ByteArray := prog_7_method_27_code
def yX5_layDay : MethodName := ⟨RX5, "layDay", "(I)V"⟩
abbrev cX5_layVane : ByteArray := prog_7_method_28_code
def yX5_layVane : MethodName := ⟨RX5, "layVane", "(I)V"⟩
abbrev cX5_fits : ByteArray := prog_7_method_29_code
def yX5_fits : MethodName := ⟨RX5, "fits", "(I)Z"⟩
abbrev cX5_fittingNow : ByteArray := prog_7_method_30_code
def yX5_fittingNow : MethodName := ⟨RX5, "fittingNow", "()I"⟩
abbrev cX5_fitting : ByteArray := prog_7_method_31_code
def yX5_fitting : MethodName := ⟨RX5, "fitting", "()I"⟩
abbrev cX5_pointsNow : ByteArray := prog_7_method_32_code
def yX5_pointsNow : MethodName := ⟨RX5, "pointsNow", "(II)I"⟩
abbrev cX5_points : ByteArray := prog_7_method_33_code
def yX5_points : MethodName := ⟨RX5, "points", "(II)I"⟩
abbrev cX5_blowsNow : ByteArray := prog_7_method_34_code
def yX5_blowsNow : MethodName := ⟨RX5, "blowsNow", "(I)I"⟩
abbrev cX5_blows : ByteArray := prog_7_method_35_code
def yX5_blows : MethodName := ⟨RX5, "blows", "(I)I"⟩
abbrev cX5_layParts : ByteArray := prog_7_method_36_code
def yX5_layParts : MethodName := ⟨RX5, "layParts", "()I"⟩
abbrev cX5_worstOf : ByteArray := prog_7_method_37_code
def yX5_worstOf : MethodName := ⟨RX5, "worstOf", "(I)I"⟩
abbrev cX5_askNow : ByteArray := prog_7_method_38_code
def yX5_askNow : MethodName := ⟨RX5, "askNow", "(I)I"⟩
abbrev cX5_mayAsk : ByteArray := prog_7_method_39_code
def yX5_mayAsk : MethodName := ⟨RX5, "mayAsk", "()Z"⟩
abbrev cX5_ask : ByteArray := prog_7_method_40_code
def yX5_ask : MethodName := ⟨RX5, "ask", "(I)I"⟩
abbrev cX5_signOf : ByteArray := prog_7_method_41_code
def yX5_signOf : MethodName := ⟨RX5, "signOf", "(I)J"⟩
abbrev cX5_placeOf : ByteArray := prog_7_method_42_code
def yX5_placeOf : MethodName := ⟨RX5, "placeOf", "(J)I"⟩
abbrev cX5_proves : ByteArray := prog_7_method_43_code
def yX5_proves : MethodName := ⟨RX5, "proves", "(II)Z"⟩
abbrev cX5_proofNow : ByteArray := prog_7_method_44_code
def yX5_proofNow : MethodName := ⟨RX5, "proofNow", "(II)I"⟩
abbrev cX5_proof : ByteArray := prog_7_method_45_code
def yX5_proof : MethodName := ⟨RX5, "proof", "(II)I"⟩
abbrev cX5_anyFits : ByteArray := prog_7_method_46_code
def yX5_anyFits : MethodName := ⟨RX5, "anyFits", "()Z"⟩
abbrev cX5_sortsNow : ByteArray := prog_7_method_47_code
def yX5_sortsNow : MethodName := ⟨RX5, "sortsNow", "(II)I"⟩
abbrev cX5_sorts : ByteArray := prog_7_method_48_code
def yX5_sorts : MethodName := ⟨RX5, "sorts", "(II)I"⟩
abbrev cX5_isKnownTill : ByteArray := prog_7_method_49_code
def yX5_isKnownTill : MethodName := ⟨RX5, "isKnownTill", "(I)Z"⟩
abbrev cX5_pointBy : ByteArray := prog_7_method_50_code
def yX5_pointBy : MethodName := ⟨RX5, "pointBy", "(III)I"⟩
abbrev cX5_canBy : ByteArray := prog_7_method_51_code
def yX5_canBy : MethodName := ⟨RX5, "canBy", "(III)Z"⟩
abbrev cX5_oilingNow : ByteArray := prog_7_method_52_code
def yX5_oilingNow : MethodName := ⟨RX5, "oilingNow", "(III)I"⟩
abbrev cX5_oiling : ByteArray := prog_7_method_53_code
def yX5_oiling : MethodName := ⟨RX5, "oiling", "(III)I"⟩
abbrev cX5_draw : ByteArray := prog_7_method_54_code
def yX5_draw : MethodName := ⟨RX5, "draw", "(I)I"⟩
abbrev cX5_goDay : ByteArray := prog_7_method_55_code
def yX5_goDay : MethodName := ⟨RX5, "goDay", "()I"⟩
abbrev cX5_gustsNow : ByteArray := prog_7_method_56_code
def yX5_gustsNow : MethodName := ⟨RX5, "gustsNow", "(III)I"⟩
abbrev cX5_gusts : ByteArray := prog_7_method_57_code
def yX5_gusts : MethodName := ⟨RX5, "gusts", "(III)I"⟩
abbrev cX5_image : ByteArray := prog_7_method_58_code
def yX5_image : MethodName := ⟨RX5, "image", "()I"⟩
abbrev cX5_restore : ByteArray := prog_7_method_59_code
def yX5_restore : MethodName := ⟨RX5, "restore", "()I"⟩
abbrev cX5_howMany : ByteArray := prog_7_method_60_code
def yX5_howMany : MethodName := ⟨RX5, "howMany", "(I)I"⟩
abbrev cX5_count : ByteArray := prog_7_method_61_code
def yX5_count : MethodName := ⟨RX5, "count", "(I)I"⟩
abbrev cX5_mix : ByteArray := prog_7_method_62_code
def yX5_mix : MethodName := ⟨RX5, "mix", "(J)V"⟩
abbrev cX5_mixVane : ByteArray := prog_7_method_63_code
def yX5_mixVane : MethodName := ⟨RX5, "mixVane", "(I)V"⟩
abbrev cX5_digest : ByteArray := prog_7_method_64_code
def yX5_digest : MethodName := ⟨RX5, "digest", "()J"⟩
def RJ6 : String := "java/lang/Integer"
def TJ6 : u_T := fun k => match k with
  | _ => ("", "", "", false)
def tyJ6 : Nat → FieldType := fun k => match k with
  | _ => .int
abbrev wsJ60 : List Cond := u_ws RJ6 TJ6 0
theorem nmJ6 : ∀ a, a < 0 → ∀ b, b < 0 → a ≠ b → (TJ6 a).2.1 ≠ (TJ6 b).2.1 := by decide +kernel
theorem tyJ6_ok : ∀ k, k < 0 → parseFieldDescriptor (TJ6 k).2.2.1 = some (tyJ6 k) := by decide +kernel
abbrev cJ6_bitCount_0f7a4 : ByteArray := prog_8_method_49_code
def yJ6_bitCount_0f7a4 : MethodName := ⟨RJ6, "bitCount", "(I)I"⟩
def RJ9 : String := "java/lang/Math"
def TJ9 : u_T := fun k => match k with
  | _ => ("", "", "", false)
def tyJ9 : Nat → FieldType := fun k => match k with
  | _ => .int
abbrev wsJ90 : List Cond := u_ws RJ9 TJ9 0
theorem nmJ9 : ∀ a, a < 0 → ∀ b, b < 0 → a ≠ b → (TJ9 a).2.1 ≠ (TJ9 b).2.1 := by decide +kernel
theorem tyJ9_ok : ∀ k, k < 0 → parseFieldDescriptor (TJ9 k).2.2.1 = some (tyJ9 k) := by decide +kernel
abbrev cJ9_max_7cf53 : ByteArray := prog_9_method_65_code
def yJ9_max_7cf53 : MethodName := ⟨RJ9, "max", "(II)I"⟩
def RL : String := "SwornVaneLaw"
abbrev cL_law : ByteArray := code
def yL_law : MethodName := ⟨RL, "law", "([I)Z"⟩
abbrev vwCl : List vw_C := [(RX0, TX0, 9), (RX1, TX1, 2), (RX2, TX2, 5), (RX3, TX3, 5), (RX4, TX4, 8), (RX5, TX5, 32)]
abbrev cM_max : ByteArray := prog_9_method_65_code
def RM : String := "java/lang/Math"
def yM_max : MethodName := ⟨RM, "max", "(II)I"⟩
