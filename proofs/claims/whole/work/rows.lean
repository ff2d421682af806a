section
-- ===== PART A: goes FIRST, ahead of the names: the tables' words, and 'selects' of the private methods out of them =====
/-- a private method of a class that the tables say can be made, by its rows of tables_1 -/
def lw_okq (q : MethodName × Nat) : Prop := (q.1.cls ≠ "java/lang/invoke/MethodHandle" ∧ q.1.cls ≠ "java/lang/invoke/VarHandle") ∧ Cond.instantiable q.1.cls q.2 ∈ tables_1 ∧ Cond.privateMethod q.1 ∈ tables_1 ∧ Cond.instanceMethod q.1 ∈ tables_1
theorem lw_p0 : lw_okq (⟨"SwornVane$Tally", "walk", "(II)I"⟩, 5) := ⟨⟨by decide +kernel, by decide +kernel⟩, List.mem_of_getElem? (i := 82) (by decide +kernel), List.mem_of_getElem? (i := 269) (by decide +kernel), List.mem_of_getElem? (i := 270) (by decide +kernel)⟩
theorem lw_p1 : lw_okq (⟨"SwornVane$Tally", "note", "(IIII)V"⟩, 5) := ⟨⟨by decide +kernel, by decide +kernel⟩, List.mem_of_getElem? (i := 82) (by decide +kernel), List.mem_of_getElem? (i := 286) (by decide +kernel), List.mem_of_getElem? (i := 287) (by decide +kernel)⟩
theorem lw_p2 : lw_okq (⟨"SwornVane", "isInquiryClosed", "()Z"⟩, 8) := ⟨⟨by decide +kernel, by decide +kernel⟩, List.mem_of_getElem? (i := 10) (by decide +kernel), List.mem_of_getElem? (i := 313) (by decide +kernel), List.mem_of_getElem? (i := 314) (by decide +kernel)⟩
theorem lw_p3 : lw_okq (⟨"SwornVane", "fewestWitnesses", "(I)I"⟩, 8) := ⟨⟨by decide +kernel, by decide +kernel⟩, List.mem_of_getElem? (i := 10) (by decide +kernel), List.mem_of_getElem? (i := 334) (by decide +kernel), List.mem_of_getElem? (i := 335) (by decide +kernel)⟩
theorem lw_p4 : lw_okq (⟨"SwornVane$Witnesses", "isTold", "(I)Z"⟩, 5) := ⟨⟨by decide +kernel, by decide +kernel⟩, List.mem_of_getElem? (i := 106) (by decide +kernel), List.mem_of_getElem? (i := 352) (by decide +kernel), List.mem_of_getElem? (i := 353) (by decide +kernel)⟩
theorem lw_p5 : lw_okq (⟨"SwornVane$Witnesses", "isOneWind", "(I)Z"⟩, 5) := ⟨⟨by decide +kernel, by decide +kernel⟩, List.mem_of_getElem? (i := 106) (by decide +kernel), List.mem_of_getElem? (i := 356) (by decide +kernel), List.mem_of_getElem? (i := 357) (by decide +kernel)⟩
theorem lw_p6 : lw_okq (⟨"SwornVane$Witnesses", "fillNext", "(II)I"⟩, 5) := ⟨⟨by decide +kernel, by decide +kernel⟩, List.mem_of_getElem? (i := 106) (by decide +kernel), List.mem_of_getElem? (i := 360) (by decide +kernel), List.mem_of_getElem? (i := 361) (by decide +kernel)⟩
theorem lw_p7 : lw_okq (⟨"SwornVane$Witnesses", "blow", "(II)V"⟩, 5) := ⟨⟨by decide +kernel, by decide +kernel⟩, List.mem_of_getElem? (i := 106) (by decide +kernel), List.mem_of_getElem? (i := 366) (by decide +kernel), List.mem_of_getElem? (i := 367) (by decide +kernel)⟩
theorem lw_p8 : lw_okq (⟨"SwornVane", "possibleSorts", "(I)I"⟩, 8) := ⟨⟨by decide +kernel, by decide +kernel⟩, List.mem_of_getElem? (i := 10) (by decide +kernel), List.mem_of_getElem? (i := 378) (by decide +kernel), List.mem_of_getElem? (i := 379) (by decide +kernel)⟩
theorem lw_p9 : lw_okq (⟨"SwornVane$Hill", "canFit", "(II)Z"⟩, 9) := ⟨⟨by decide +kernel, by decide +kernel⟩, List.mem_of_getElem? (i := 36) (by decide +kernel), List.mem_of_getElem? (i := 387) (by decide +kernel), List.mem_of_getElem? (i := 388) (by decide +kernel)⟩
theorem lw_p10 : lw_okq (⟨"SwornVane", "fewestToOil", "(II)I"⟩, 8) := ⟨⟨by decide +kernel, by decide +kernel⟩, List.mem_of_getElem? (i := 10) (by decide +kernel), List.mem_of_getElem? (i := 405) (by decide +kernel), List.mem_of_getElem? (i := 406) (by decide +kernel)⟩
theorem lw_p11 : lw_okq (⟨"SwornVane", "digestOfVane", "(JI)J"⟩, 8) := ⟨⟨by decide +kernel, by decide +kernel⟩, List.mem_of_getElem? (i := 10) (by decide +kernel), List.mem_of_getElem? (i := 458) (by decide +kernel), List.mem_of_getElem? (i := 459) (by decide +kernel)⟩
theorem lw_p12 : lw_okq (⟨"SwornVaneModel", "faultNow", "()I"⟩, 32) := ⟨⟨by decide +kernel, by decide +kernel⟩, List.mem_of_getElem? (i := 468) (by decide +kernel), List.mem_of_getElem? (i := 588) (by decide +kernel), List.mem_of_getElem? (i := 589) (by decide +kernel)⟩
theorem lw_p13 : lw_okq (⟨"SwornVaneModel", "isHour", "(I)Z"⟩, 32) := ⟨⟨by decide +kernel, by decide +kernel⟩, List.mem_of_getElem? (i := 468) (by decide +kernel), List.mem_of_getElem? (i := 603) (by decide +kernel), List.mem_of_getElem? (i := 604) (by decide +kernel)⟩
theorem lw_p14 : lw_okq (⟨"SwornVaneModel", "isVane", "(I)Z"⟩, 32) := ⟨⟨by decide +kernel, by decide +kernel⟩, List.mem_of_getElem? (i := 468) (by decide +kernel), List.mem_of_getElem? (i := 618) (by decide +kernel), List.mem_of_getElem? (i := 619) (by decide +kernel)⟩
theorem lw_p15 : lw_okq (⟨"SwornVaneModel", "vaneNow", "(II)I"⟩, 32) := ⟨⟨by decide +kernel, by decide +kernel⟩, List.mem_of_getElem? (i := 468) (by decide +kernel), List.mem_of_getElem? (i := 622) (by decide +kernel), List.mem_of_getElem? (i := 623) (by decide +kernel)⟩
def lw_privs_1 : List (MethodName × Nat) := [(⟨"SwornVane$Tally", "walk", "(II)I"⟩, 5), (⟨"SwornVane$Tally", "note", "(IIII)V"⟩, 5), (⟨"SwornVane", "isInquiryClosed", "()Z"⟩, 8), (⟨"SwornVane", "fewestWitnesses", "(I)I"⟩, 8), (⟨"SwornVane$Witnesses", "isTold", "(I)Z"⟩, 5), (⟨"SwornVane$Witnesses", "isOneWind", "(I)Z"⟩, 5), (⟨"SwornVane$Witnesses", "fillNext", "(II)I"⟩, 5), (⟨"SwornVane$Witnesses", "blow", "(II)V"⟩, 5), (⟨"SwornVane", "possibleSorts", "(I)I"⟩, 8), (⟨"SwornVane$Hill", "canFit", "(II)Z"⟩, 9), (⟨"SwornVane", "fewestToOil", "(II)I"⟩, 8), (⟨"SwornVane", "digestOfVane", "(JI)J"⟩, 8), (⟨"SwornVaneModel", "faultNow", "()I"⟩, 32), (⟨"SwornVaneModel", "isHour", "(I)Z"⟩, 32), (⟨"SwornVaneModel", "isVane", "(I)Z"⟩, 32), (⟨"SwornVaneModel", "vaneNow", "(II)I"⟩, 32)]
theorem lw_r1 : ∀ q ∈ lw_privs_1, lw_okq q := List.forall_mem_cons.mpr ⟨lw_p0, List.forall_mem_cons.mpr ⟨lw_p1, List.forall_mem_cons.mpr ⟨lw_p2, List.forall_mem_cons.mpr ⟨lw_p3, List.forall_mem_cons.mpr ⟨lw_p4, List.forall_mem_cons.mpr ⟨lw_p5, List.forall_mem_cons.mpr ⟨lw_p6, List.forall_mem_cons.mpr ⟨lw_p7, List.forall_mem_cons.mpr ⟨lw_p8, List.forall_mem_cons.mpr ⟨lw_p9, List.forall_mem_cons.mpr ⟨lw_p10, List.forall_mem_cons.mpr ⟨lw_p11, List.forall_mem_cons.mpr ⟨lw_p12, List.forall_mem_cons.mpr ⟨lw_p13, List.forall_mem_cons.mpr ⟨lw_p14, List.forall_mem_cons.mpr ⟨lw_p15, fun _ h => absurd h List.not_mem_nil⟩⟩⟩⟩⟩⟩⟩⟩⟩⟩⟩⟩⟩⟩⟩⟩
theorem lw_p16 : lw_okq (⟨"SwornVaneModel", "seenOf", "(I)I"⟩, 32) := ⟨⟨by decide +kernel, by decide +kernel⟩, List.mem_of_getElem? (i := 468) (by decide +kernel), List.mem_of_getElem? (i := 626) (by decide +kernel), List.mem_of_getElem? (i := 627) (by decide +kernel)⟩
theorem lw_p17 : lw_okq (⟨"SwornVaneModel", "fittingNow", "()I"⟩, 32) := ⟨⟨by decide +kernel, by decide +kernel⟩, List.mem_of_getElem? (i := 468) (by decide +kernel), List.mem_of_getElem? (i := 656) (by decide +kernel), List.mem_of_getElem? (i := 657) (by decide +kernel)⟩
theorem lw_p18 : lw_okq (⟨"SwornVaneModel", "codes", "()I"⟩, 32) := ⟨⟨by decide +kernel, by decide +kernel⟩, List.mem_of_getElem? (i := 468) (by decide +kernel), List.mem_of_getElem? (i := 660) (by decide +kernel), List.mem_of_getElem? (i := 661) (by decide +kernel)⟩
theorem lw_p19 : lw_okq (⟨"SwornVaneModel", "unknownHours", "()I"⟩, 32) := ⟨⟨by decide +kernel, by decide +kernel⟩, List.mem_of_getElem? (i := 468) (by decide +kernel), List.mem_of_getElem? (i := 664) (by decide +kernel), List.mem_of_getElem? (i := 665) (by decide +kernel)⟩
theorem lw_p20 : lw_okq (⟨"SwornVaneModel", "fits", "(I)Z"⟩, 32) := ⟨⟨by decide +kernel, by decide +kernel⟩, List.mem_of_getElem? (i := 468) (by decide +kernel), List.mem_of_getElem? (i := 668) (by decide +kernel), List.mem_of_getElem? (i := 669) (by decide +kernel)⟩
theorem lw_p21 : lw_okq (⟨"SwornVaneModel", "layDay", "(I)V"⟩, 32) := ⟨⟨by decide +kernel, by decide +kernel⟩, List.mem_of_getElem? (i := 468) (by decide +kernel), List.mem_of_getElem? (i := 672) (by decide +kernel), List.mem_of_getElem? (i := 673) (by decide +kernel)⟩
theorem lw_p22 : lw_okq (⟨"SwornVaneModel", "layVane", "(I)V"⟩, 32) := ⟨⟨by decide +kernel, by decide +kernel⟩, List.mem_of_getElem? (i := 468) (by decide +kernel), List.mem_of_getElem? (i := 676) (by decide +kernel), List.mem_of_getElem? (i := 677) (by decide +kernel)⟩
theorem lw_p23 : lw_okq (⟨"SwornVaneModel", "pointsNow", "(II)I"⟩, 32) := ⟨⟨by decide +kernel, by decide +kernel⟩, List.mem_of_getElem? (i := 468) (by decide +kernel), List.mem_of_getElem? (i := 684) (by decide +kernel), List.mem_of_getElem? (i := 685) (by decide +kernel)⟩
theorem lw_p24 : lw_okq (⟨"SwornVaneModel", "blowsNow", "(I)I"⟩, 32) := ⟨⟨by decide +kernel, by decide +kernel⟩, List.mem_of_getElem? (i := 468) (by decide +kernel), List.mem_of_getElem? (i := 692) (by decide +kernel), List.mem_of_getElem? (i := 693) (by decide +kernel)⟩
theorem lw_p25 : lw_okq (⟨"SwornVaneModel", "mayAsk", "()Z"⟩, 32) := ⟨⟨by decide +kernel, by decide +kernel⟩, List.mem_of_getElem? (i := 468) (by decide +kernel), List.mem_of_getElem? (i := 700) (by decide +kernel), List.mem_of_getElem? (i := 701) (by decide +kernel)⟩
theorem lw_p26 : lw_okq (⟨"SwornVaneModel", "askNow", "(I)I"⟩, 32) := ⟨⟨by decide +kernel, by decide +kernel⟩, List.mem_of_getElem? (i := 468) (by decide +kernel), List.mem_of_getElem? (i := 704) (by decide +kernel), List.mem_of_getElem? (i := 705) (by decide +kernel)⟩
theorem lw_p27 : lw_okq (⟨"SwornVaneModel", "layParts", "()I"⟩, 32) := ⟨⟨by decide +kernel, by decide +kernel⟩, List.mem_of_getElem? (i := 468) (by decide +kernel), List.mem_of_getElem? (i := 708) (by decide +kernel), List.mem_of_getElem? (i := 709) (by decide +kernel)⟩
theorem lw_p28 : lw_okq (⟨"SwornVaneModel", "worstOf", "(I)I"⟩, 32) := ⟨⟨by decide +kernel, by decide +kernel⟩, List.mem_of_getElem? (i := 468) (by decide +kernel), List.mem_of_getElem? (i := 712) (by decide +kernel), List.mem_of_getElem? (i := 713) (by decide +kernel)⟩
theorem lw_p29 : lw_okq (⟨"SwornVaneModel", "proofNow", "(II)I"⟩, 32) := ⟨⟨by decide +kernel, by decide +kernel⟩, List.mem_of_getElem? (i := 468) (by decide +kernel), List.mem_of_getElem? (i := 720) (by decide +kernel), List.mem_of_getElem? (i := 721) (by decide +kernel)⟩
theorem lw_p30 : lw_okq (⟨"SwornVaneModel", "proves", "(II)Z"⟩, 32) := ⟨⟨by decide +kernel, by decide +kernel⟩, List.mem_of_getElem? (i := 468) (by decide +kernel), List.mem_of_getElem? (i := 727) (by decide +kernel), List.mem_of_getElem? (i := 728) (by decide +kernel)⟩
theorem lw_p31 : lw_okq (⟨"SwornVaneModel", "signOf", "(I)J"⟩, 32) := ⟨⟨by decide +kernel, by decide +kernel⟩, List.mem_of_getElem? (i := 468) (by decide +kernel), List.mem_of_getElem? (i := 731) (by decide +kernel), List.mem_of_getElem? (i := 732) (by decide +kernel)⟩
def lw_privs_2 : List (MethodName × Nat) := [(⟨"SwornVaneModel", "seenOf", "(I)I"⟩, 32), (⟨"SwornVaneModel", "fittingNow", "()I"⟩, 32), (⟨"SwornVaneModel", "codes", "()I"⟩, 32), (⟨"SwornVaneModel", "unknownHours", "()I"⟩, 32), (⟨"SwornVaneModel", "fits", "(I)Z"⟩, 32), (⟨"SwornVaneModel", "layDay", "(I)V"⟩, 32), (⟨"SwornVaneModel", "layVane", "(I)V"⟩, 32), (⟨"SwornVaneModel", "pointsNow", "(II)I"⟩, 32), (⟨"SwornVaneModel", "blowsNow", "(I)I"⟩, 32), (⟨"SwornVaneModel", "mayAsk", "()Z"⟩, 32), (⟨"SwornVaneModel", "askNow", "(I)I"⟩, 32), (⟨"SwornVaneModel", "layParts", "()I"⟩, 32), (⟨"SwornVaneModel", "worstOf", "(I)I"⟩, 32), (⟨"SwornVaneModel", "proofNow", "(II)I"⟩, 32), (⟨"SwornVaneModel", "proves", "(II)Z"⟩, 32), (⟨"SwornVaneModel", "signOf", "(I)J"⟩, 32)]
theorem lw_r2 : ∀ q ∈ lw_privs_2, lw_okq q := List.forall_mem_cons.mpr ⟨lw_p16, List.forall_mem_cons.mpr ⟨lw_p17, List.forall_mem_cons.mpr ⟨lw_p18, List.forall_mem_cons.mpr ⟨lw_p19, List.forall_mem_cons.mpr ⟨lw_p20, List.forall_mem_cons.mpr ⟨lw_p21, List.forall_mem_cons.mpr ⟨lw_p22, List.forall_mem_cons.mpr ⟨lw_p23, List.forall_mem_cons.mpr ⟨lw_p24, List.forall_mem_cons.mpr ⟨lw_p25, List.forall_mem_cons.mpr ⟨lw_p26, List.forall_mem_cons.mpr ⟨lw_p27, List.forall_mem_cons.mpr ⟨lw_p28, List.forall_mem_cons.mpr ⟨lw_p29, List.forall_mem_cons.mpr ⟨lw_p30, List.forall_mem_cons.mpr ⟨lw_p31, fun _ h => absurd h List.not_mem_nil⟩⟩⟩⟩⟩⟩⟩⟩⟩⟩⟩⟩⟩⟩⟩⟩
theorem lw_p32 : lw_okq (⟨"SwornVaneModel", "placeOf", "(J)I"⟩, 32) := ⟨⟨by decide +kernel, by decide +kernel⟩, List.mem_of_getElem? (i := 468) (by decide +kernel), List.mem_of_getElem? (i := 736) (by decide +kernel), List.mem_of_getElem? (i := 737) (by decide +kernel)⟩
theorem lw_p33 : lw_okq (⟨"SwornVaneModel", "sortsNow", "(II)I"⟩, 32) := ⟨⟨by decide +kernel, by decide +kernel⟩, List.mem_of_getElem? (i := 468) (by decide +kernel), List.mem_of_getElem? (i := 746) (by decide +kernel), List.mem_of_getElem? (i := 747) (by decide +kernel)⟩
theorem lw_p34 : lw_okq (⟨"SwornVaneModel", "anyFits", "()Z"⟩, 32) := ⟨⟨by decide +kernel, by decide +kernel⟩, List.mem_of_getElem? (i := 468) (by decide +kernel), List.mem_of_getElem? (i := 750) (by decide +kernel), List.mem_of_getElem? (i := 751) (by decide +kernel)⟩
theorem lw_p35 : lw_okq (⟨"SwornVaneModel", "isKnownTill", "(I)Z"⟩, 32) := ⟨⟨by decide +kernel, by decide +kernel⟩, List.mem_of_getElem? (i := 468) (by decide +kernel), List.mem_of_getElem? (i := 758) (by decide +kernel), List.mem_of_getElem? (i := 759) (by decide +kernel)⟩
theorem lw_p36 : lw_okq (⟨"SwornVaneModel", "oilingNow", "(III)I"⟩, 32) := ⟨⟨by decide +kernel, by decide +kernel⟩, List.mem_of_getElem? (i := 468) (by decide +kernel), List.mem_of_getElem? (i := 762) (by decide +kernel), List.mem_of_getElem? (i := 763) (by decide +kernel)⟩
theorem lw_p37 : lw_okq (⟨"SwornVaneModel", "canBy", "(III)Z"⟩, 32) := ⟨⟨by decide +kernel, by decide +kernel⟩, List.mem_of_getElem? (i := 468) (by decide +kernel), List.mem_of_getElem? (i := 766) (by decide +kernel), List.mem_of_getElem? (i := 767) (by decide +kernel)⟩
theorem lw_p38 : lw_okq (⟨"SwornVaneModel", "pointBy", "(III)I"⟩, 32) := ⟨⟨by decide +kernel, by decide +kernel⟩, List.mem_of_getElem? (i := 468) (by decide +kernel), List.mem_of_getElem? (i := 770) (by decide +kernel), List.mem_of_getElem? (i := 771) (by decide +kernel)⟩
theorem lw_p39 : lw_okq (⟨"SwornVaneModel", "gustsNow", "(III)I"⟩, 32) := ⟨⟨by decide +kernel, by decide +kernel⟩, List.mem_of_getElem? (i := 468) (by decide +kernel), List.mem_of_getElem? (i := 778) (by decide +kernel), List.mem_of_getElem? (i := 779) (by decide +kernel)⟩
theorem lw_p40 : lw_okq (⟨"SwornVaneModel", "goDay", "()I"⟩, 32) := ⟨⟨by decide +kernel, by decide +kernel⟩, List.mem_of_getElem? (i := 468) (by decide +kernel), List.mem_of_getElem? (i := 782) (by decide +kernel), List.mem_of_getElem? (i := 783) (by decide +kernel)⟩
theorem lw_p41 : lw_okq (⟨"SwornVaneModel", "draw", "(I)I"⟩, 32) := ⟨⟨by decide +kernel, by decide +kernel⟩, List.mem_of_getElem? (i := 468) (by decide +kernel), List.mem_of_getElem? (i := 786) (by decide +kernel), List.mem_of_getElem? (i := 787) (by decide +kernel)⟩
theorem lw_p42 : lw_okq (⟨"SwornVaneModel", "howMany", "(I)I"⟩, 32) := ⟨⟨by decide +kernel, by decide +kernel⟩, List.mem_of_getElem? (i := 468) (by decide +kernel), List.mem_of_getElem? (i := 806) (by decide +kernel), List.mem_of_getElem? (i := 807) (by decide +kernel)⟩
theorem lw_p43 : lw_okq (⟨"SwornVaneModel", "mixVane", "(I)V"⟩, 32) := ⟨⟨by decide +kernel, by decide +kernel⟩, List.mem_of_getElem? (i := 468) (by decide +kernel), List.mem_of_getElem? (i := 815) (by decide +kernel), List.mem_of_getElem? (i := 816) (by decide +kernel)⟩
theorem lw_p44 : lw_okq (⟨"SwornVaneModel", "mix", "(J)V"⟩, 32) := ⟨⟨by decide +kernel, by decide +kernel⟩, List.mem_of_getElem? (i := 468) (by decide +kernel), List.mem_of_getElem? (i := 819) (by decide +kernel), List.mem_of_getElem? (i := 820) (by decide +kernel)⟩
def lw_privs_3 : List (MethodName × Nat) := [(⟨"SwornVaneModel", "placeOf", "(J)I"⟩, 32), (⟨"SwornVaneModel", "sortsNow", "(II)I"⟩, 32), (⟨"SwornVaneModel", "anyFits", "()Z"⟩, 32), (⟨"SwornVaneModel", "isKnownTill", "(I)Z"⟩, 32), (⟨"SwornVaneModel", "oilingNow", "(III)I"⟩, 32), (⟨"SwornVaneModel", "canBy", "(III)Z"⟩, 32), (⟨"SwornVaneModel", "pointBy", "(III)I"⟩, 32), (⟨"SwornVaneModel", "gustsNow", "(III)I"⟩, 32), (⟨"SwornVaneModel", "goDay", "()I"⟩, 32), (⟨"SwornVaneModel", "draw", "(I)I"⟩, 32), (⟨"SwornVaneModel", "howMany", "(I)I"⟩, 32), (⟨"SwornVaneModel", "mixVane", "(I)V"⟩, 32), (⟨"SwornVaneModel", "mix", "(J)V"⟩, 32)]
theorem lw_r3 : ∀ q ∈ lw_privs_3, lw_okq q := List.forall_mem_cons.mpr ⟨lw_p32, List.forall_mem_cons.mpr ⟨lw_p33, List.forall_mem_cons.mpr ⟨lw_p34, List.forall_mem_cons.mpr ⟨lw_p35, List.forall_mem_cons.mpr ⟨lw_p36, List.forall_mem_cons.mpr ⟨lw_p37, List.forall_mem_cons.mpr ⟨lw_p38, List.forall_mem_cons.mpr ⟨lw_p39, List.forall_mem_cons.mpr ⟨lw_p40, List.forall_mem_cons.mpr ⟨lw_p41, List.forall_mem_cons.mpr ⟨lw_p42, List.forall_mem_cons.mpr ⟨lw_p43, List.forall_mem_cons.mpr ⟨lw_p44, fun _ h => absurd h List.not_mem_nil⟩⟩⟩⟩⟩⟩⟩⟩⟩⟩⟩⟩⟩
def lw_privs : List (MethodName × Nat) := lw_privs_1 ++ (lw_privs_2 ++ (lw_privs_3))
def lw_tbl : List Cond := k2_sels lw_privs ++ tables_1
theorem lw_privs_ok : ∀ q ∈ lw_privs, lw_okq q := by
  show ∀ q ∈ lw_privs_1 ++ (lw_privs_2 ++ (lw_privs_3)), lw_okq q
  exact List.forall_mem_append.mpr ⟨lw_r1, List.forall_mem_append.mpr ⟨lw_r2, lw_r3⟩⟩
-- ===== end of PART A; then your names; then what follows =====
def RX0 : String := "SwornVane$Hill"
def TX0 : u_T := fun k => match k with
  | 0 => ("SwornVane$Hill", "hours", "I", false)
  | 1 => ("SwornVane$Hill", "winds", "[I", true)
  | 2 => ("SwornVane$Hill", "vanes", "I", false)
  | 3 => ("SwornVane$Hill", "kinds", "[I", true)
  | 4 => ("SwornVane$Hill", "starts", "[I", true)
  | 5 => ("SwornVane$Hill", "twists", "[I", true)
  | 6 => ("SwornVane$Hill", "seen", "I", false)
  | 7 => ("SwornVane$Hill", "seenOf", "[I", true)
  | _ => ("SwornVane$Hill", "left", "[I", true)
def tyX0 : Nat → FieldType := fun k => match k with
  | 0 => .int
  | 1 => .array .int
  | 2 => .int
  | 3 => .array .int
  | 4 => .array .int
  | 5 => .array .int
  | 6 => .int
  | 7 => .array .int
  | _ => .array .int
abbrev wsX00 : List Cond := u_ws RX0 TX0 9
theorem nmX0 : ∀ a, a < 9 → ∀ b, b < 9 → a ≠ b → (TX0 a).2.1 ≠ (TX0 b).2.1 := by decide +kernel
theorem tyX0_ok : ∀ k, k < 9 → parseFieldDescriptor (TX0 k).2.2.1 = some (tyX0 k) := by decide +kernel
abbrev cX0_init : ByteArray := prog_2_method_1_code
def yX0_init : MethodName := ⟨RX0, "<init>", "()V"⟩
abbrev cX0_hasHour : ByteArray := prog_2_method_2_code
def yX0_hasHour : MethodName := ⟨RX0, "hasHour", "(I)Z"⟩
abbrev cX0_hasVane : ByteArray := prog_2_method_3_code
def yX0_hasVane : MethodName := ⟨RX0, "hasVane", "(I)Z"⟩
abbrev cX0_begin : ByteArray := prog_2_method_4_code
def yX0_begin : MethodName := ⟨RX0, "begin", "(LSwornVane$Page;)V"⟩
abbrev cX0_raise : ByteArray := prog_2_method_5_code
def yX0_raise : MethodName := ⟨RX0, "raise", "(III)V"⟩
abbrev cX0_witness : ByteArray := prog_2_method_6_code
def yX0_witness : MethodName := ⟨RX0, "witness", "(III)V"⟩
abbrev cX0_clearSeen : ByteArray := prog_2_method_7_code
def yX0_clearSeen : MethodName := ⟨RX0, "clearSeen", "()V"⟩
abbrev cX0_become : ByteArray := prog_2_method_8_code
def yX0_become : MethodName := ⟨RX0, "become", "(LSwornVane$Hill;)V"⟩
abbrev cX0_knownWinds : ByteArray := prog_2_method_9_code
def yX0_knownWinds : MethodName := ⟨RX0, "knownWinds", "()I"⟩
abbrev cX0_isKnownUntil : ByteArray := prog_2_method_10_code
def yX0_isKnownUntil : MethodName := ⟨RX0, "isKnownUntil", "(I)Z"⟩
abbrev cX0_mayBlow : ByteArray := prog_2_method_11_code
def yX0_mayBlow : MethodName := ⟨RX0, "mayBlow", "(II)Z"⟩
abbrev cX0_turned : ByteArray := prog_2_method_12_code
def yX0_turned : MethodName := ⟨RX0, "turned", "(IIII)I"⟩
abbrev cX0_nudged : ByteArray := prog_2_method_13_code
def yX0_nudged : MethodName := ⟨RX0, "nudged", "(II)I"⟩
abbrev cX0_startPose : ByteArray := prog_2_method_14_code
def yX0_startPose : MethodName := ⟨RX0, "startPose", "()I"⟩
abbrev cX0_turnedPose : ByteArray := prog_2_method_15_code
def yX0_turnedPose : MethodName := ⟨RX0, "turnedPose", "(II)I"⟩
abbrev cX0_agrees : ByteArray := prog_2_method_16_code
def yX0_agrees : MethodName := ⟨RX0, "agrees", "(II)Z"⟩
abbrev cX0_hasFitting : ByteArray := prog_2_method_17_code
def yX0_hasFitting : MethodName := ⟨RX0, "hasFitting", "()Z"⟩
abbrev cX0_canFit : ByteArray := prog_2_method_18_code
def yX0_canFit : MethodName := ⟨RX0, "canFit", "(II)Z"⟩
abbrev cX0_pointWith : ByteArray := prog_2_method_19_code
def yX0_pointWith : MethodName := ⟨RX0, "pointWith", "(III)I"⟩
abbrev cX0_pointingAt : ByteArray := prog_2_method_20_code
def yX0_pointingAt : MethodName := ⟨RX0, "pointingAt", "(II)I"⟩
abbrev cX0_isMoreThanHalf : ByteArray := prog_2_method_21_code
def yX0_isMoreThanHalf : MethodName := ⟨RX0, "isMoreThanHalf", "(I)Z"⟩
def RX1 : String := "SwornVane$Page"
def TX1 : u_T := fun k => match k with
  | 0 => ("SwornVane$Page", "codes", "[I", true)
  | _ => ("SwornVane$Page", "length", "I", false)
def tyX1 : Nat → FieldType := fun k => match k with
  | 0 => .array .int
  | _ => .int
abbrev wsX10 : List Cond := u_ws RX1 TX1 2
theorem nmX1 : ∀ a, a < 2 → ∀ b, b < 2 → a ≠ b → (TX1 a).2.1 ≠ (TX1 b).2.1 := by decide +kernel
theorem tyX1_ok : ∀ k, k < 2 → parseFieldDescriptor (TX1 k).2.2.1 = some (tyX1 k) := by decide +kernel
abbrev cX1_init : ByteArray := prog_3_method_1_code
def yX1_init : MethodName := ⟨RX1, "<init>", "()V"⟩
abbrev cX1_add : ByteArray := prog_3_method_2_code
def yX1_add : MethodName := ⟨RX1, "add", "(I)Z"⟩
abbrev cX1_firstFault : ByteArray := prog_3_method_3_code
def yX1_firstFault : MethodName := ⟨RX1, "firstFault", "()I"⟩
abbrev cX1_isOfDay : ByteArray := prog_3_method_4_code
def yX1_isOfDay : MethodName := ⟨RX1, "isOfDay", "(I)Z"⟩
abbrev cX1_windOf : ByteArray := prog_3_method_5_code
def yX1_windOf : MethodName := ⟨RX1, "windOf", "(I)I"⟩
def RX2 : String := "SwornVane$Tally"
def TX2 : u_T := fun k => match k with
  | 0 => ("SwornVane$Tally", "hill", "LSwornVane$Hill;", true)
  | 1 => ("SwornVane$Tally", "poses", "[I", true)
  | 2 => ("SwornVane$Tally", "gales", "[I", true)
  | 3 => ("SwornVane$Tally", "all", "I", false)
  | _ => ("SwornVane$Tally", "isStale", "Z", false)
def tyX2 : Nat → FieldType := fun k => match k with
  | 0 => .object "SwornVane$Hill"
  | 1 => .array .int
  | 2 => .array .int
  | 3 => .int
  | _ => .boolean
abbrev wsX20 : List Cond := u_ws RX2 TX2 5
theorem nmX2 : ∀ a, a < 5 → ∀ b, b < 5 → a ≠ b → (TX2 a).2.1 ≠ (TX2 b).2.1 := by decide +kernel
theorem tyX2_ok : ∀ k, k < 5 → parseFieldDescriptor (TX2 k).2.2.1 = some (tyX2 k) := by decide +kernel
abbrev cX2_init : ByteArray := prog_4_method_1_code
def yX2_init : MethodName := ⟨RX2, "<init>", "(LSwornVane$Hill;)V"⟩
abbrev cX2_refresh : ByteArray := prog_4_method_2_code
def yX2_refresh : MethodName := ⟨RX2, "refresh", "()V"⟩
abbrev cX2_walk : ByteArray := prog_4_method_3_code
def yX2_walk : MethodName := ⟨RX2, "walk", "(II)I"⟩
abbrev cX2_note : ByteArray := prog_4_method_4_code
def yX2_note : MethodName := ⟨RX2, "note", "(IIII)V"⟩
abbrev cX2_pointed : ByteArray := prog_4_method_5_code
def yX2_pointed : MethodName := ⟨RX2, "pointed", "(II)I"⟩
abbrev cX2_blown : ByteArray := prog_4_method_6_code
def yX2_blown : MethodName := ⟨RX2, "blown", "(I)I"⟩
abbrev cX2_bitsOf : ByteArray := prog_4_method_7_code
def yX2_bitsOf : MethodName := ⟨RX2, "bitsOf", "([II)I"⟩
abbrev cX2_worst : ByteArray := prog_4_method_8_code
def yX2_worst : MethodName := ⟨RX2, "worst", "(II)I"⟩
abbrev cX2_bestPlace : ByteArray := prog_4_method_9_code
def yX2_bestPlace : MethodName := ⟨RX2, "bestPlace", "()I"⟩
def RX3 : String := "SwornVane$Witnesses"
def TX3 : u_T := fun k => match k with
  | 0 => ("SwornVane$Witnesses", "hill", "LSwornVane$Hill;", true)
  | 1 => ("SwornVane$Witnesses", "groups", "[[I", true)
  | 2 => ("SwornVane$Witnesses", "sizes", "[I", true)
  | 3 => ("SwornVane$Witnesses", "asked", "I", false)
  | _ => ("SwornVane$Witnesses", "bits", "I", false)
def tyX3 : Nat → FieldType := fun k => match k with
  | 0 => .object "SwornVane$Hill"
  | 1 => .array (.array .int)
  | 2 => .array .int
  | 3 => .int
  | _ => .int
abbrev wsX30 : List Cond := u_ws RX3 TX3 5
theorem nmX3 : ∀ a, a < 5 → ∀ b, b < 5 → a ≠ b → (TX3 a).2.1 ≠ (TX3 b).2.1 := by decide +kernel
theorem tyX3_ok : ∀ k, k < 5 → parseFieldDescriptor (TX3 k).2.2.1 = some (tyX3 k) := by decide +kernel
abbrev cX3_init : ByteArray := prog_5_method_1_code
def yX3_init : MethodName := ⟨RX3, "<init>", "(LSwornVane$Hill;)V"⟩
abbrev cX3_tell : ByteArray := prog_5_method_2_code
def yX3_tell : MethodName := ⟨RX3, "tell", "(II)Z"⟩
abbrev cX3_isTold : ByteArray := prog_5_method_3_code
def yX3_isTold : MethodName := ⟨RX3, "isTold", "(I)Z"⟩
abbrev cX3_isOneWind : ByteArray := prog_5_method_4_code
def yX3_isOneWind : MethodName := ⟨RX3, "isOneWind", "(I)Z"⟩
abbrev cX3_fillNext : ByteArray := prog_5_method_5_code
def yX3_fillNext : MethodName := ⟨RX3, "fillNext", "(II)I"⟩
abbrev cX3_blow : ByteArray := prog_5_method_6_code
def yX3_blow : MethodName := ⟨RX3, "blow", "(II)V"⟩
def RX4 : String := "SwornVane"
def TX4 : u_T := fun k => match k with
  | 0 => ("SwornVane", "page", "LSwornVane$Page;", true)
  | 1 => ("SwornVane", "hill", "LSwornVane$Hill;", true)
  | 2 => ("SwornVane", "kept", "LSwornVane$Hill;", true)
  | 3 => ("SwornVane", "tally", "LSwornVane$Tally;", true)
  | 4 => ("SwornVane", "witnesses", "LSwornVane$Witnesses;", true)
  | 5 => ("SwornVane", "isKept", "Z", false)
  | 6 => ("SwornVane", "readings", "I", false)
  | _ => ("SwornVane", "inquiries", "I", false)
def tyX4 : Nat → FieldType := fun k => match k with
  | 0 => .object "SwornVane$Page"
  | 1 => .object "SwornVane$Hill"
  | 2 => .object "SwornVane$Hill"
  | 3 => .object "SwornVane$Tally"
  | 4 => .object "SwornVane$Witnesses"
  | 5 => .boolean
  | 6 => .int
  | _ => .int
abbrev wsX40 : List Cond := u_ws RX4 TX4 8
theorem nmX4 : ∀ a, a < 8 → ∀ b, b < 8 → a ≠ b → (TX4 a).2.1 ≠ (TX4 b).2.1 := by decide +kernel
theorem tyX4_ok : ∀ k, k < 8 → parseFieldDescriptor (TX4 k).2.2.1 = some (tyX4 k) := by decide +kernel
abbrev cX4_init : ByteArray := prog_1_method_1_code
def yX4_init : MethodName := ⟨RX4, "<init>", "()V"⟩
abbrev cX4_letter : ByteArray := prog_1_method_2_code
def yX4_letter : MethodName := ⟨RX4, "letter", "(I)I"⟩
abbrev cX4_blank : ByteArray := prog_1_method_3_code
def yX4_blank : MethodName := ⟨RX4, "blank", "()I"⟩
abbrev cX4_fault : ByteArray := prog_1_method_4_code
def yX4_fault : MethodName := ⟨RX4, "fault", "()I"⟩
abbrev cX4_day : ByteArray := prog_1_method_5_code
def yX4_day : MethodName := ⟨RX4, "day", "()I"⟩
abbrev cX4_wind : ByteArray := prog_1_method_6_code
def yX4_wind : MethodName := ⟨RX4, "wind", "(II)I"⟩
abbrev cX4_vane : ByteArray := prog_1_method_7_code
def yX4_vane : MethodName := ⟨RX4, "vane", "(III)I"⟩
abbrev cX4_about : ByteArray := prog_1_method_8_code
def yX4_about : MethodName := ⟨RX4, "about", "(II)I"⟩
abbrev cX4_as : ByteArray := prog_1_method_9_code
def yX4_as : MethodName := ⟨RX4, "as", "(II)I"⟩
abbrev cX4_oil : ByteArray := prog_1_method_10_code
def yX4_oil : MethodName := ⟨RX4, "oil", "(II)I"⟩
abbrev cX4_see : ByteArray := prog_1_method_11_code
def yX4_see : MethodName := ⟨RX4, "see", "(III)I"⟩
abbrev cX4_forget : ByteArray := prog_1_method_12_code
def yX4_forget : MethodName := ⟨RX4, "forget", "()I"⟩
abbrev cX4_fitting : ByteArray := prog_1_method_13_code
def yX4_fitting : MethodName := ⟨RX4, "fitting", "()I"⟩
abbrev cX4_points : ByteArray := prog_1_method_14_code
def yX4_points : MethodName := ⟨RX4, "points", "(II)I"⟩
abbrev cX4_blows : ByteArray := prog_1_method_15_code
def yX4_blows : MethodName := ⟨RX4, "blows", "(I)I"⟩
abbrev cX4_ask : ByteArray := prog_1_method_16_code
def yX4_ask : MethodName := ⟨RX4, "ask", "(I)I"⟩
abbrev cX4_proof : ByteArray := prog_1_method_17_code
def yX4_proof : MethodName := ⟨RX4, "proof", "(II)I"⟩
abbrev cX4_sorts : ByteArray := prog_1_method_18_code
def yX4_sorts : MethodName := ⟨RX4, "sorts", "(II)I"⟩
abbrev cX4_oiling : ByteArray := prog_1_method_19_code
def yX4_oiling : MethodName := ⟨RX4, "oiling", "(III)I"⟩
abbrev cX4_gusts : ByteArray := prog_1_method_20_code
def yX4_gusts : MethodName := ⟨RX4, "gusts", "(III)I"⟩
abbrev cX4_image : ByteArray := prog_1_method_21_code
def yX4_image : MethodName := ⟨RX4, "image", "()I"⟩
abbrev cX4_restore : ByteArray := prog_1_method_22_code
def yX4_restore : MethodName := ⟨RX4, "restore", "()I"⟩
abbrev cX4_count : ByteArray := prog_1_method_23_code
def yX4_count : MethodName := ⟨RX4, "count", "(I)I"⟩
abbrev cX4_digest : ByteArray := prog_1_method_24_code
def yX4_digest : MethodName := ⟨RX4, "digest", "()J"⟩
abbrev cX4_digestOfVane : ByteArray := prog_1_method_25_code
def yX4_digestOfVane : MethodName := ⟨RX4, "digestOfVane", "(JI)J"⟩
abbrev cX4_isInquiryClosed : ByteArray := prog_1_method_26_code
def yX4_isInquiryClosed : MethodName := ⟨RX4, "isInquiryClosed", "()Z"⟩
abbrev cX4_fewestWitnesses : ByteArray := prog_1_method_27_code
def yX4_fewestWitnesses : MethodName := ⟨RX4, "fewestWitnesses", "(I)I"⟩
abbrev cX4_possibleSorts : ByteArray := prog_1_method_28_code
def yX4_possibleSorts : MethodName := ⟨RX4, "possibleSorts", "(I)I"⟩
abbrev cX4_leastOf : ByteArray := prog_1_method_29_code
def yX4_leastOf : MethodName := ⟨RX4, "leastOf", "(I)I"⟩
abbrev cX4_fewestToOil : ByteArray := prog_1_method_30_code
def yX4_fewestToOil : MethodName := ⟨RX4, "fewestToOil", "(II)I"⟩
abbrev cX4_isFewer : ByteArray := prog_1_method_31_code
def yX4_isFewer : MethodName := ⟨RX4, "isFewer", "(II)Z"⟩
abbrev cX4_sizeOrSet : ByteArray := prog_1_method_32_code
def yX4_sizeOrSet : MethodName := ⟨RX4, "sizeOrSet", "(II)I"⟩
abbrev cX4_isQuarter : ByteArray := prog_1_method_33_code
def yX4_isQuarter : MethodName := ⟨RX4, "isQuarter", "(I)Z"⟩
abbrev cX4_isTwist : ByteArray := prog_1_method_34_code
def yX4_isTwist : MethodName := ⟨RX4, "isTwist", "(I)Z"⟩
abbrev cX4_isKind : ByteArray := prog_1_method_35_code
def yX4_isKind : MethodName := ⟨RX4, "isKind", "(I)Z"⟩
abbrev cX4_isSuch : ByteArray := prog_1_method_36_code
def yX4_isSuch : MethodName := ⟨RX4, "isSuch", "(II)Z"⟩
abbrev cX4_nextSeed : ByteArray := prog_1_method_37_code
def yX4_nextSeed : MethodName := ⟨RX4, "nextSeed", "(I)I"⟩
def RX5 : String := "SwornVaneModel"
def TX5 : u_T := fun k => match k with
  | 0 => ("SwornVaneModel", "days", "I", false)
  | 1 => ("SwornVaneModel", "hours", "I", false)
  | 2 => ("SwornVaneModel", "windOf", "[I", true)
  | 3 => ("SwornVaneModel", "vanes", "I", false)
  | 4 => ("SwornVaneModel", "kindOf", "[I", true)
  | 5 => ("SwornVaneModel", "startOf", "[I", true)
  | 6 => ("SwornVaneModel", "twistOf", "[I", true)
  | 7 => ("SwornVaneModel", "seen", "I", false)
  | 8 => ("SwornVaneModel", "seenVane", "[I", true)
  | 9 => ("SwornVaneModel", "seenHour", "[I", true)
  | 10 => ("SwornVaneModel", "seenAt", "[I", true)
  | 11 => ("SwornVaneModel", "asks", "I", false)
  | 12 => ("SwornVaneModel", "pageLength", "I", false)
  | 13 => ("SwornVaneModel", "page", "[B", true)
  | 14 => ("SwornVaneModel", "blowsAt", "[I", true)
  | 15 => ("SwornVaneModel", "pointsAt", "[I", true)
  | 16 => ("SwornVaneModel", "partOf", "[I", true)
  | 17 => ("SwornVaneModel", "alikeOf", "[J", true)
  | 18 => ("SwornVaneModel", "alikeWind", "[I", true)
  | 19 => ("SwornVaneModel", "alikeRound", "[I", true)
  | 20 => ("SwornVaneModel", "round", "I", false)
  | 21 => ("SwornVaneModel", "seedNow", "J", false)
  | 22 => ("SwornVaneModel", "isKept", "Z", false)
  | 23 => ("SwornVaneModel", "keptDay", "I", false)
  | 24 => ("SwornVaneModel", "keptVanes", "I", false)
  | 25 => ("SwornVaneModel", "keptSeen", "I", false)
  | 26 => ("SwornVaneModel", "keptWind", "[I", true)
  | 27 => ("SwornVaneModel", "keptTwist", "[I", true)
  | 28 => ("SwornVaneModel", "keptSeenVane", "[I", true)
  | 29 => ("SwornVaneModel", "keptSeenHour", "[I", true)
  | 30 => ("SwornVaneModel", "keptSeenAt", "[I", true)
  | _ => ("SwornVaneModel", "h", "J", false)
def tyX5 : Nat → FieldType := fun k => match k with
  | 0 => .int
  | 1 => .int
  | 2 => .array .int
  | 3 => .int
  | 4 => .array .int
  | 5 => .array .int
  | 6 => .array .int
  | 7 => .int
  | 8 => .array .int
  | 9 => .array .int
  | 10 => .array .int
  | 11 => .int
  | 12 => .int
  | 13 => .array .byte
  | 14 => .array .int
  | 15 => .array .int
  | 16 => .array .int
  | 17 => .array .long
  | 18 => .array .int
  | 19 => .array .int
  | 20 => .int
  | 21 => .long
  | 22 => .boolean
  | 23 => .int
  | 24 => .int
  | 25 => .int
  | 26 => .array .int
  | 27 => .array .int
  | 28 => .array .int
  | 29 => .array .int
  | 30 => .array .int
  | _ => .long
abbrev wsX50 : List Cond := u_ws RX5 TX5 32
theorem nmX5 : ∀ a, a < 32 → ∀ b, b < 32 → a ≠ b → (TX5 a).2.1 ≠ (TX5 b).2.1 := by decide +kernel
theorem tyX5_ok : ∀ k, k < 32 → parseFieldDescriptor (TX5 k).2.2.1 = some (tyX5 k) := by decide +kernel
abbrev cX5_init : ByteArray := prog_7_method_1_code
def yX5_init : MethodName := ⟨RX5, "<init>", "()V"⟩
abbrev cX5_within : ByteArray := prog_7_method_3_code
def yX5_within : MethodName := ⟨RX5, "within", "(III)Z"⟩
abbrev cX5_isQuarter : ByteArray := prog_7_method_4_code
def yX5_isQuarter : MethodName := ⟨RX5, "isQuarter", "(I)Z"⟩
abbrev cX5_size : ByteArray := prog_7_method_5_code
def yX5_size : MethodName := ⟨RX5, "size", "(I)I"⟩
abbrev cX5_letter : ByteArray := prog_7_method_6_code
def yX5_letter : MethodName := ⟨RX5, "letter", "(I)I"⟩
abbrev cX5_blank : ByteArray := prog_7_method_7_code
def yX5_blank : MethodName := ⟨RX5, "blank", "()I"⟩
abbrev cX5_windBy : ByteArray := prog_7_method_8_code
def yX5_windBy : MethodName := ⟨RX5, "windBy", "(I)I"⟩
abbrev cX5_faultNow : ByteArray := prog_7_method_9_code
def yX5_faultNow : MethodName := ⟨RX5, "faultNow", "()I"⟩
abbrev cX5_fault : ByteArray := prog_7_method_10_code
def yX5_fault : MethodName := ⟨RX5, "fault", "()I"⟩
abbrev cX5_day : ByteArray := prog_7_method_11_code
def yX5_day : MethodName := ⟨RX5, "day", "()I"⟩
abbrev cX5_isHour : ByteArray := prog_7_method_12_code
def yX5_isHour : MethodName := ⟨RX5, "isHour", "(I)Z"⟩
abbrev cX5_isVane : ByteArray := prog_7_method_13_code
def yX5_isVane : MethodName := ⟨RX5, "isVane", "(I)Z"⟩
abbrev cX5_wind : ByteArray := prog_7_method_14_code
def yX5_wind : MethodName := ⟨RX5, "wind", "(II)I"⟩
abbrev cX5_rusted : ByteArray := prog_7_method_15_code
def yX5_rusted : MethodName := ⟨RX5, "rusted", "(II)I"⟩
abbrev cX5_turned : ByteArray := prog_7_method_16_code
def yX5_turned : MethodName := ⟨RX5, "turned", "(IIII)I"⟩
abbrev cX5_vane : ByteArray := prog_7_method_17_code
def yX5_vane : MethodName := ⟨RX5, "vane", "(III)I"⟩
abbrev cX5_seenOf : ByteArray := prog_7_method_18_code
def yX5_seenOf : MethodName := ⟨RX5, "seenOf", "(I)I"⟩
abbrev cX5_vaneNow : ByteArray := prog_7_method_19_code
def yX5_vaneNow : MethodName := ⟨RX5, "vaneNow", "(II)I"⟩
abbrev cX5_about : ByteArray := prog_7_method_20_code
def yX5_about : MethodName := ⟨RX5, "about", "(II)I"⟩
abbrev cX5_as : ByteArray := prog_7_method_21_code
def yX5_as : MethodName := ⟨RX5, "as", "(II)I"⟩
abbrev cX5_oil : ByteArray := prog_7_method_22_code
def yX5_oil : MethodName := ⟨RX5, "oil", "(II)I"⟩
abbrev cX5_see : ByteArray := prog_7_method_23_code
def yX5_see : MethodName := ⟨RX5, "see", "(III)I"⟩
abbrev cX5_forget : ByteArray := prog_7_method_24_code
def yX5_forget : MethodName := ⟨RX5, "forget", "()I"⟩
abbrev cX5_unknownHours : ByteArray := prog_7_method_25_code
def yX5_unknownHours : MethodName := ⟨RX5, "unknownHours", "()I"⟩
abbrev cX5_codes : ByteArray := prog_7_method_26_code
def yX5_codes : MethodName := ⟨RX5, "codes", "()I"⟩
abbrev cX5_layDay : ByteArray := prog_7_method_27_code
def yX5_layDay : MethodName := ⟨RX5, "layDay", "(I)V"⟩
abbrev cX5_layVane : ByteArray := prog_7_method_28_code
def yX5_layVane : MethodName := ⟨RX5, "layVane", "(I)V"⟩
abbrev cX5_fits : ByteArray := prog_7_method_29_code
def yX5_fits : MethodName := ⟨RX5, "fits", "(I)Z"⟩
abbrev cX5_fittingNow : ByteArray := prog_7_method_30_code
def yX5_fittingNow : MethodName := ⟨RX5, "fittingNow", "()I"⟩
abbrev cX5_fitting : ByteArray := prog_7_method_31_code
def yX5_fitting : MethodName := ⟨RX5, "fitting", "()I"⟩
abbrev cX5_pointsNow : ByteArray := prog_7_method_32_code
def yX5_pointsNow : MethodName := ⟨RX5, "pointsNow", "(II)I"⟩
abbrev cX5_points : ByteArray := prog_7_method_33_code
def yX5_points : MethodName := ⟨RX5, "points", "(II)I"⟩
abbrev cX5_blowsNow : ByteArray := prog_7_method_34_code
def yX5_blowsNow : MethodName := ⟨RX5, "blowsNow", "(I)I"⟩
abbrev cX5_blows : ByteArray := prog_7_method_35_code
def yX5_blows : MethodName := ⟨RX5, "blows", "(I)I"⟩
abbrev cX5_layParts : ByteArray := prog_7_method_36_code
def yX5_layParts : MethodName := ⟨RX5, "layParts", "()I"⟩
abbrev cX5_worstOf : ByteArray := prog_7_method_37_code
def yX5_worstOf : MethodName := ⟨RX5, "worstOf", "(I)I"⟩
abbrev cX5_askNow : ByteArray := prog_7_method_38_code
def yX5_askNow : MethodName := ⟨RX5, "askNow", "(I)I"⟩
abbrev cX5_mayAsk : ByteArray := prog_7_method_39_code
def yX5_mayAsk : MethodName := ⟨RX5, "mayAsk", "()Z"⟩
abbrev cX5_ask : ByteArray := prog_7_method_40_code
def yX5_ask : MethodName := ⟨RX5, "ask", "(I)I"⟩
abbrev cX5_signOf : ByteArray := prog_7_method_41_code
def yX5_signOf : MethodName := ⟨RX5, "signOf", "(I)J"⟩
abbrev cX5_placeOf : ByteArray := prog_7_method_42_code
def yX5_placeOf : MethodName := ⟨RX5, "placeOf", "(J)I"⟩
abbrev cX5_proves : ByteArray := prog_7_method_43_code
def yX5_proves : MethodName := ⟨RX5, "proves", "(II)Z"⟩
abbrev cX5_proofNow : ByteArray := prog_7_method_44_code
def yX5_proofNow : MethodName := ⟨RX5, "proofNow", "(II)I"⟩
abbrev cX5_proof : ByteArray := prog_7_method_45_code
def yX5_proof : MethodName := ⟨RX5, "proof", "(II)I"⟩
abbrev cX5_anyFits : ByteArray := prog_7_method_46_code
def yX5_anyFits : MethodName := ⟨RX5, "anyFits", "()Z"⟩
abbrev cX5_sortsNow : ByteArray := prog_7_method_47_code
def yX5_sortsNow : MethodName := ⟨RX5, "sortsNow", "(II)I"⟩
abbrev cX5_sorts : ByteArray := prog_7_method_48_code
def yX5_sorts : MethodName := ⟨RX5, "sorts", "(II)I"⟩
abbrev cX5_isKnownTill : ByteArray := prog_7_method_49_code
def yX5_isKnownTill : MethodName := ⟨RX5, "isKnownTill", "(I)Z"⟩
abbrev cX5_pointBy : ByteArray := prog_7_method_50_code
def yX5_pointBy : MethodName := ⟨RX5, "pointBy", "(III)I"⟩
abbrev cX5_canBy : ByteArray := prog_7_method_51_code
def yX5_canBy : MethodName := ⟨RX5, "canBy", "(III)Z"⟩
abbrev cX5_oilingNow : ByteArray := prog_7_method_52_code
def yX5_oilingNow : MethodName := ⟨RX5, "oilingNow", "(III)I"⟩
abbrev cX5_oiling : ByteArray := prog_7_method_53_code
def yX5_oiling : MethodName := ⟨RX5, "oiling", "(III)I"⟩
abbrev cX5_draw : ByteArray := prog_7_method_54_code
def yX5_draw : MethodName := ⟨RX5, "draw", "(I)I"⟩
abbrev cX5_goDay : ByteArray := prog_7_method_55_code
def yX5_goDay : MethodName := ⟨RX5, "goDay", "()I"⟩
abbrev cX5_gustsNow : ByteArray := prog_7_method_56_code
def yX5_gustsNow : MethodName := ⟨RX5, "gustsNow", "(III)I"⟩
abbrev cX5_gusts : ByteArray := prog_7_method_57_code
def yX5_gusts : MethodName := ⟨RX5, "gusts", "(III)I"⟩
abbrev cX5_image : ByteArray := prog_7_method_58_code
def yX5_image : MethodName := ⟨RX5, "image", "()I"⟩
abbrev cX5_restore : ByteArray := prog_7_method_59_code
def yX5_restore : MethodName := ⟨RX5, "restore", "()I"⟩
abbrev cX5_howMany : ByteArray := prog_7_method_60_code
def yX5_howMany : MethodName := ⟨RX5, "howMany", "(I)I"⟩
abbrev cX5_count : ByteArray := prog_7_method_61_code
def yX5_count : MethodName := ⟨RX5, "count", "(I)I"⟩
abbrev cX5_mix : ByteArray := prog_7_method_62_code
def yX5_mix : MethodName := ⟨RX5, "mix", "(J)V"⟩
abbrev cX5_mixVane : ByteArray := prog_7_method_63_code
def yX5_mixVane : MethodName := ⟨RX5, "mixVane", "(I)V"⟩
abbrev cX5_digest : ByteArray := prog_7_method_64_code
def yX5_digest : MethodName := ⟨RX5, "digest", "()J"⟩
def RJ6 : String := "java/lang/Integer"
def TJ6 : u_T := fun k => match k with
  | _ => ("", "", "", false)
def tyJ6 : Nat → FieldType := fun k => match k with
  | _ => .int
abbrev wsJ60 : List Cond := u_ws RJ6 TJ6 0
theorem nmJ6 : ∀ a, a < 0 → ∀ b, b < 0 → a ≠ b → (TJ6 a).2.1 ≠ (TJ6 b).2.1 := by decide +kernel
theorem tyJ6_ok : ∀ k, k < 0 → parseFieldDescriptor (TJ6 k).2.2.1 = some (tyJ6 k) := by decide +kernel
abbrev cJ6_bitCount_0f7a4 : ByteArray := prog_8_method_49_code
def yJ6_bitCount_0f7a4 : MethodName := ⟨RJ6, "bitCount", "(I)I"⟩
def RJ9 : String := "java/lang/Math"
def TJ9 : u_T := fun k => match k with
  | _ => ("", "", "", false)
def tyJ9 : Nat → FieldType := fun k => match k with
  | _ => .int
abbrev wsJ90 : List Cond := u_ws RJ9 TJ9 0
theorem nmJ9 : ∀ a, a < 0 → ∀ b, b < 0 → a ≠ b → (TJ9 a).2.1 ≠ (TJ9 b).2.1 := by decide +kernel
theorem tyJ9_ok : ∀ k, k < 0 → parseFieldDescriptor (TJ9 k).2.2.1 = some (tyJ9 k) := by decide +kernel
abbrev cJ9_max_7cf53 : ByteArray := prog_9_method_65_code
def yJ9_max_7cf53 : MethodName := ⟨RJ9, "max", "(II)I"⟩
def RL : String := "SwornVaneLaw"
abbrev cL_law : ByteArray := code
def yL_law : MethodName := ⟨RL, "law", "([I)Z"⟩
abbrev vwCl : List vw_C := [(RX0, TX0, 9), (RX1, TX1, 2), (RX2, TX2, 5), (RX3, TX3, 5), (RX4, TX4, 8), (RX5, TX5, 32)]
abbrev cM_max : ByteArray := prog_9_method_65_code
def RM : String := "java/lang/Math"
def yM_max : MethodName := ⟨RM, "max", "(II)I"⟩
end
section
/-! The simple machine: one method's code as rows, locals by place, a stack, a heap by places; a step as a transformer of what must hold. -/
abbrev sm_E : Type := (Nat × vp_A) ⊕ (Nat × List Value)
abbrev sm_H : Type := List sm_E
abbrev sm_L : Type := List (Option Value)
/-- pc, next pc, instruction, three numbers, a value, a switch's rows -/
abbrev sm_I : Type := Nat × Nat × Instr × Nat × Nat × Nat × Value × List (Int32 × Nat)
/-- name, code, locals, return, rows; places of its words: code, instance or static, selects, initialized -/
abbrev sm_M : Type := MethodName × ByteArray × Nat × Option FieldType × List sm_I × Nat × Nat × Nat × Nat
abbrev sm_Q : Type := Option Value → sm_H → Prop
abbrev sm_CT : Type := Nat → List Value → sm_H → sm_Q → Prop
abbrev sm_K : Type := Nat → sm_L → List Value → sm_H → Prop
def sm_nth {α : Type} : List α → Nat → Option α
  | [], _ => none
  | a :: _, 0 => some a
  | _ :: r, k + 1 => sm_nth r k
theorem sm_nth_eq {α : Type} : ∀ (l : List α) (k : Nat), sm_nth l k = l[k]?
  | [], _ => by simp [sm_nth]
  | _ :: _, 0 => by simp [sm_nth]
  | _ :: r, k + 1 => by simp [sm_nth, sm_nth_eq r k]
def sm_get (ls : sm_L) (i : Nat) : Option Value := match sm_nth ls i with
  | some o => o
  | none => none
/-- a store of one place: never over the second half of a long -/
def sm_st1 (ls : sm_L) (i : Nat) (v : Value) (k : sm_L → Prop) : Prop := match i with
  | 0 => k (ls.set 0 (some v))
  | j + 1 => match sm_get ls j with
    | some w => cond (Nat.beq w.category 2) False (k (ls.set (j + 1) (some v)))
    | none => k (ls.set (j + 1) (some v))
def sm_st2 (ls : sm_L) (i : Nat) (v : Value) (k : sm_L → Prop) : Prop := match i with
  | 0 => k ((ls.set 0 (some v)).set 1 none)
  | j + 1 => match sm_get ls j with
    | some w => cond (Nat.beq w.category 2) False (k ((ls.set (j + 1) (some v)).set (j + 2) none))
    | none => k ((ls.set (j + 1) (some v)).set (j + 2) none)
-- views of a value, of a stack
def sm_oi (o : Option Value) (f : Int32 → Prop) : Prop := match o with
  | some (.int a) => f a
  | _ => False
def sm_ol (o : Option Value) (f : Int64 → Prop) : Prop := match o with
  | some (.long a) => f a
  | _ => False
def sm_or (o : Option Value) (f : Nat → Prop) : Prop := match o with
  | some (.ref a) => f a
  | _ => False
def sm_si (st : List Value) (f : Int32 → List Value → Prop) : Prop := match st with
  | .int a :: r => f a r
  | _ => False
def sm_sl (st : List Value) (f : Int64 → List Value → Prop) : Prop := match st with
  | .long a :: r => f a r
  | _ => False
def sm_sr (st : List Value) (f : Nat → List Value → Prop) : Prop := match st with
  | .ref a :: r => f a r
  | _ => False
def sm_sv (st : List Value) (f : Value → List Value → Prop) : Prop := match st with
  | v :: r => f v r
  | _ => False
-- views of a heap
def sm_ha (h : sm_H) (a : Nat) (f : Nat → vp_A → Prop) (g : Prop) : Prop := match sm_nth h a with
  | some (.inl (t, x)) => f t x
  | some (.inr _) => False
  | none => g
def sm_ho (h : sm_H) (a : Nat) (f : Nat → List Value → Prop) : Prop := match sm_nth h a with
  | some (.inr (c, fs)) => f c fs
  | _ => False
def sm_xi (x : vp_A) (f : Nat → (Nat → Int32) → Prop) : Prop := match x with
  | (n, .inl g) => f n g
  | _ => False
def sm_xl (x : vp_A) (f : Nat → (Nat → Int64) → Prop) : Prop := match x with
  | (n, .inr (.inl g)) => f n g
  | _ => False
def sm_xr (x : vp_A) (f : Nat → (Nat → Option Nat) → Prop) : Prop := match x with
  | (n, .inr (.inr (.inr (.inr g)))) => f n g
  | _ => False
def sm_icmp (c : ClassFile.Cond) (x y : Int32) (t f : Prop) : Prop := match c with
  | .eq => (x = y → t) ∧ (¬ x = y → f)
  | .ne => (¬ x = y → t) ∧ (x = y → f)
  | .lt => (x < y → t) ∧ (¬ x < y → f)
  | .ge => (y ≤ x → t) ∧ (¬ y ≤ x → f)
  | .gt => (y < x → t) ∧ (¬ y < x → f)
  | .le => (x ≤ y → t) ∧ (¬ x ≤ y → f)
def sm_if0 (c : ClassFile.Cond) (x : Int32) (t f : Prop) : Prop := match c with
  | .eq => (x = nI 0 → t) ∧ (¬ x = nI 0 → f)
  | .ne => (¬ x = nI 0 → t) ∧ (x = nI 0 → f)
  | .lt => (x < nI 0 → t) ∧ (¬ x < nI 0 → f)
  | .ge => (nI 0 ≤ x → t) ∧ (¬ nI 0 ≤ x → f)
  | .gt => (nI 0 < x → t) ∧ (¬ nI 0 < x → f)
  | .le => (x ≤ nI 0 → t) ∧ (¬ x ≤ nI 0 → f)
def sm_sw (a : Int32) (sw : List (Int32 × Nat)) (d : Nat) (k : Nat → Prop) : Prop := match sw with
  | [] => k d
  | q :: r => (a = q.1 → k q.2) ∧ (¬ a = q.1 → sm_sw a r d k)
/-- n values off the stack, the last one first -/
def sm_pop : Nat → List Value → List Value → (List Value → List Value → Prop) → Prop
  | 0, acc, st, f => f acc st
  | n + 1, acc, st, f => match st with
    | v :: r => sm_pop n (v :: acc) r f
    | [] => False
def sm_cat : List Value → Nat
  | [] => 0
  | v :: r => v.category + sm_cat r
def sm_push (v : Option Value) (st : List Value) : List Value := match v with
  | some a => a :: st
  | none => st
def sm_fld (fs : List Value) (y : Nat) (f : Value → Prop) : Prop := match sm_nth fs y with
  | some w => f w
  | none => False
def sm_store (v : Value) (st : List Value) (f : Value → Nat → List Value → Prop) : Prop := match v, st with
  | .int _, .int a :: .ref b :: r => f (.int a) b r
  | .long _, .long a :: .ref b :: r => f (.long a) b r
  | .null, .int a :: .ref b :: r => (a = nI 0 ∨ a = nI 1) ∧ f (.int a) b r
  | _, _ => False
/-- a place of an array: within (a shield: whnf stops at it) -/
def sm_in (j : Int32) (n : Nat) : Prop := Nonempty (PLift (vp_in j n))
theorem sm_in_of {j : Int32} {n : Nat} (h : vp_in j n) : sm_in j n := ⟨⟨h⟩⟩
theorem sm_in_inv {j : Int32} {n : Nat} (h : sm_in j n) : vp_in j n := by
  obtain ⟨⟨h⟩⟩ := h
  exact h
def sm_shl (x y : Int32) : Int32 := x <<< (y &&& 31)
def sm_shr (x y : Int32) : Int32 := x >>> (y &&& 31)
def sm_ushr (x y : Int32) : Int32 := (x.toUInt32 >>> (y.toUInt32 &&& Int32.toUInt32 31)).toInt32
def sm_ir (x y : Int32) : Int32 := x - x / y * y
def sm_lr (x y : Int64) : Int64 := x - x / y * y
def sm_step (CT : sm_CT) (Q : sm_Q) (sc : Option (Nat × (Nat → Int32))) (i : Instr) (nx x y : Nat) (v : Value) (sw : List (Int32 × Nat)) (ls : sm_L) (st : List Value) (h : sm_H) (k : sm_K) : Prop :=
  match i with
  | .iconst _ => k nx ls (v :: st) h
  | .bipush _ => k nx ls (v :: st) h
  | .sipush _ => k nx ls (v :: st) h
  | .ldc _ => k nx ls (v :: st) h
  | .ldc_w _ => k nx ls (v :: st) h
  | .ldc2_w _ => k nx ls (v :: st) h
  | .lconst _ => k nx ls (v :: st) h
  | .iload_n _ => sm_oi (sm_get ls x) fun a => k nx ls (.int a :: st) h
  | .iload _ => sm_oi (sm_get ls x) fun a => k nx ls (.int a :: st) h
  | .lload_n _ => sm_ol (sm_get ls x) fun a => k nx ls (.long a :: st) h
  | .lload _ => sm_ol (sm_get ls x) fun a => k nx ls (.long a :: st) h
  | .aload_n _ => sm_or (sm_get ls x) fun a => k nx ls (.ref a :: st) h
  | .aload _ => sm_or (sm_get ls x) fun a => k nx ls (.ref a :: st) h
  | .istore_n _ => sm_si st fun a r => sm_st1 ls x (.int a) fun ls => k nx ls r h
  | .istore _ => sm_si st fun a r => sm_st1 ls x (.int a) fun ls => k nx ls r h
  | .lstore_n _ => sm_sl st fun a r => sm_st2 ls x (.long a) fun ls => k nx ls r h
  | .lstore _ => sm_sl st fun a r => sm_st2 ls x (.long a) fun ls => k nx ls r h
  | .astore_n _ => sm_sr st fun a r => sm_st1 ls x (.ref a) fun ls => k nx ls r h
  | .astore _ => sm_sr st fun a r => sm_st1 ls x (.ref a) fun ls => k nx ls r h
  | .iinc _ _ => sm_oi (sm_get ls x) fun a => sm_oi (some v) fun b => sm_st1 ls x (.int (a + b)) fun ls => k nx ls st h
  | .iadd => sm_si st fun b r => sm_si r fun a r => k nx ls (.int (a + b) :: r) h
  | .isub => sm_si st fun b r => sm_si r fun a r => k nx ls (.int (a - b) :: r) h
  | .imul => sm_si st fun b r => sm_si r fun a r => k nx ls (.int (a * b) :: r) h
  | .iand => sm_si st fun b r => sm_si r fun a r => k nx ls (.int (a &&& b) :: r) h
  | .ior => sm_si st fun b r => sm_si r fun a r => k nx ls (.int (a ||| b) :: r) h
  | .ixor => sm_si st fun b r => sm_si r fun a r => k nx ls (.int (a ^^^ b) :: r) h
  | .idiv => sm_si st fun b r => sm_si r fun a r => ¬ b = nI 0 ∧ k nx ls (.int (a / b) :: r) h
  | .irem => sm_si st fun b r => sm_si r fun a r => ¬ b = nI 0 ∧ k nx ls (.int (sm_ir a b) :: r) h
  | .ishl => sm_si st fun b r => sm_si r fun a r => k nx ls (.int (sm_shl a b) :: r) h
  | .ishr => sm_si st fun b r => sm_si r fun a r => k nx ls (.int (sm_shr a b) :: r) h
  | .iushr => sm_si st fun b r => sm_si r fun a r => k nx ls (.int (sm_ushr a b) :: r) h
  | .ladd => sm_sl st fun b r => sm_sl r fun a r => k nx ls (.long (a + b) :: r) h
  | .lmul => sm_sl st fun b r => sm_sl r fun a r => k nx ls (.long (a * b) :: r) h
  | .land => sm_sl st fun b r => sm_sl r fun a r => k nx ls (.long (a &&& b) :: r) h
  | .ldiv => sm_sl st fun b r => sm_sl r fun a r => ¬ b = 0 ∧ k nx ls (.long (a / b) :: r) h
  | .lrem => sm_sl st fun b r => sm_sl r fun a r => ¬ b = 0 ∧ k nx ls (.long (sm_lr a b) :: r) h
  | .lshr => sm_si st fun b r => sm_sl r fun a r => k nx ls (.long (a >>> (b.toInt64 &&& 63)) :: r) h
  | .lcmp => sm_sl st fun b r => sm_sl r fun a r => k nx ls (.int (lg_cmp a b) :: r) h
  | .i2l => sm_si st fun a r => k nx ls (.long a.toInt64 :: r) h
  | .l2i => sm_sl st fun a r => k nx ls (.int a.toInt32 :: r) h
  | .i2b => sm_si st fun a r => k nx ls (.int a.toInt8.toInt32 :: r) h
  | .dup => sm_sv st fun a r => cond (Nat.beq a.category 1) (k nx ls (a :: a :: r) h) False
  | .dup2 => sm_sv st fun a r => sm_sv r fun b r => cond (Nat.beq a.category 1) (cond (Nat.beq b.category 1) (k nx ls (a :: b :: a :: b :: r) h) False) False
  | .ifCond c _ => sm_si st fun a r => sm_if0 c a (k x ls r h) (k nx ls r h)
  | .if_icmp c _ => sm_si st fun b r => sm_si r fun a r => sm_icmp c a b (k x ls r h) (k nx ls r h)
  | .goto _ => k x ls st h
  | .tableswitch _ _ _ _ => sm_si st fun a r => sm_sw a sw x fun t => k t ls r h
  | .lookupswitch _ _ => sm_si st fun a r => sm_sw a sw x fun t => k t ls r h
  | .getfield _ => sm_sr st fun a r => sm_ho h a fun c fs => cond (Nat.beq c x) (sm_fld fs y fun w => k nx ls (w :: r) h) False
  | .putfield _ => sm_store v st fun w a r => sm_ho h a fun c fs => cond (Nat.beq c x) (cond (Nat.blt y fs.length) (k nx ls r (h.set a (.inr (c, fs.set y w)))) False) False
  | .iaload => sm_si st fun j r => sm_sr r fun a r => sm_ha h a (fun t z => cond (Nat.beq t 0) (sm_xi z fun n g => sm_in j n ∧ k nx ls (.int (g j.toNatClampNeg) :: r) h) False)
      (match sc with
        | some q => cond (Nat.beq a 9999) (sm_in j q.1 ∧ k nx ls (.int (q.2 j.toNatClampNeg) :: r) h) False
        | none => False)
  | .iastore => sm_si st fun w r => sm_si r fun j r => sm_sr r fun a r => sm_ha h a (fun t z => cond (Nat.beq t 0) (sm_xi z fun n g => sm_in j n ∧ k nx ls r (h.set a (.inl (0, n, .inl (upd g j.toNatClampNeg w))))) False) False
  | .baload => sm_si st fun j r => sm_sr r fun a r => sm_ha h a (fun t z => cond (Nat.beq t 2) (sm_xi z fun n g => sm_in j n ∧ k nx ls (.int (g j.toNatClampNeg) :: r) h) False) False
  | .bastore => sm_si st fun w r => sm_si r fun j r => sm_sr r fun a r => sm_ha h a (fun t z => cond (Nat.beq t 2) (sm_xi z fun n g => sm_in j n ∧ k nx ls r (h.set a (.inl (2, n, .inl (upd g j.toNatClampNeg (vp_nar .byte w)))))) False) False
  | .laload => sm_si st fun j r => sm_sr r fun a r => sm_ha h a (fun t z => cond (Nat.beq t 1) (sm_xl z fun n g => sm_in j n ∧ k nx ls (.long (g j.toNatClampNeg) :: r) h) False) False
  | .lastore => sm_sl st fun w r => sm_si r fun j r => sm_sr r fun a r => sm_ha h a (fun t z => cond (Nat.beq t 1) (sm_xl z fun n g => sm_in j n ∧ k nx ls r (h.set a (.inl (1, n, .inr (.inl (vp_updL g j.toNatClampNeg w)))))) False) False
  | .aaload => sm_si st fun j r => sm_sr r fun a r => sm_ha h a (fun t z => cond (Nat.beq t 3) (sm_xr z fun n g => sm_in j n ∧ ∃ b, g j.toNatClampNeg = some b ∧ k nx ls (.ref b :: r) h) False) False
  | .arraylength => sm_sr st fun a r => sm_ha h a (fun t z => cond (Nat.blt t 4) (k nx ls (.int (nI z.1) :: r) h) False)
      (match sc with
        | some q => cond (Nat.beq a 9999) (k nx ls (.int (nI q.1) :: r) h) False
        | none => False)
  | .invokevirtual _ => sm_pop y [] st fun as r => sm_sr r fun a r => cond (Nat.ble (sm_cat r) 8) (sm_ho h a fun c _ => sm_or (some v) fun b => cond (Nat.beq b c) (CT x (.ref a :: as) h fun w h => k nx ls (sm_push w r) h) False) False
  | .invokestatic _ => sm_pop y [] st fun as r => cond (Nat.ble (sm_cat r) 8) (CT x as h fun w h => k nx ls (sm_push w r) h) False
  | .ireturn => sm_si st fun a r => match r, y with
    | [], 0 => Q (some (.int a)) h
    | [], _ => (a = nI 0 ∨ a = nI 1) ∧ Q (some (.int a)) h
    | _, _ => False
  | .lreturn => sm_sl st fun a r => match r with
    | [] => Q (some (.long a)) h
    | _ => False
  | .return_ => match st with
    | [] => Q none h
    | _ => False
  | _ => False
def sm_from : List sm_I → Nat → List sm_I
  | [], _ => []
  | e :: r, pc => cond (Nat.beq e.1 pc) (e :: r) (sm_from r pc)
/-- where a run goes on: at the row behind, or wherever the pc stands -/
def sm_next (tb tl : List sm_I) (pc : Nat) : List sm_I := match tl with
  | [] => sm_from tb pc
  | e :: r => cond (Nat.beq e.1 pc) (e :: r) (sm_from tb pc)
def sm_mem (l : List Nat) (a : Nat) : Bool := match l with
  | [] => false
  | b :: r => cond (Nat.beq b a) true (sm_mem r a)
/-- n steps at most; at a pc of 'stop' (not at the start) K must hold -/
def sm_run (CT : sm_CT) (Q : sm_Q) (sc : Option (Nat × (Nat → Int32))) (tb : List sm_I) (stop : List Nat) (K : sm_K) : Nat → List sm_I → sm_L → List Value → sm_H → Prop
  | 0, _, _, _, _ => False
  | n + 1, suf, ls, st, h => match suf with
    | [] => False
    | e :: tl => sm_step CT Q sc e.2.2.1 e.2.1 e.2.2.2.1 e.2.2.2.2.1 e.2.2.2.2.2.2.1 e.2.2.2.2.2.2.2 ls st h fun pc ls st h =>
      cond (sm_mem stop pc) (K pc ls st h) (sm_run CT Q sc tb stop K n (sm_next tb tl pc) ls st h)
end
section
def sm_t0 : List sm_I := [(0, 1, .aload_n 0, 0, 0, 0, .null, []),
  (1, 4, .invokespecial 3, 0, 0, 0, .null, []),
  (4, 5, .aload_n 0, 0, 0, 0, .null, []),
  (5, 7, .bipush 6, 0, 0, 0, .int (nI 6), []),
  (7, 9, .newarray .int, 0, 0, 0, .null, []),
  (9, 12, .putfield 9, 0, 1, 90, .ref 0, []),
  (12, 13, .aload_n 0, 0, 0, 0, .null, []),
  (13, 14, .iconst 4, 0, 0, 0, .int (nI 4), []),
  (14, 16, .newarray .int, 0, 0, 0, .null, []),
  (16, 19, .putfield 15, 0, 3, 96, .ref 0, []),
  (19, 20, .aload_n 0, 0, 0, 0, .null, []),
  (20, 21, .iconst 4, 0, 0, 0, .int (nI 4), []),
  (21, 23, .newarray .int, 0, 0, 0, .null, []),
  (23, 26, .putfield 18, 0, 4, 98, .ref 0, []),
  (26, 27, .aload_n 0, 0, 0, 0, .null, []),
  (27, 28, .iconst 4, 0, 0, 0, .int (nI 4), []),
  (28, 30, .newarray .int, 0, 0, 0, .null, []),
  (30, 33, .putfield 21, 0, 5, 100, .ref 0, []),
  (33, 34, .aload_n 0, 0, 0, 0, .null, []),
  (34, 35, .iconst 4, 0, 0, 0, .int (nI 4), []),
  (35, 37, .newarray .int, 0, 0, 0, .null, []),
  (37, 40, .putfield 24, 0, 7, 104, .ref 0, []),
  (40, 41, .aload_n 0, 0, 0, 0, .null, []),
  (41, 43, .bipush 24, 0, 0, 0, .int (nI 24), []),
  (43, 45, .newarray .int, 0, 0, 0, .null, []),
  (45, 48, .putfield 27, 0, 8, 106, .ref 0, []),
  (48, 49, .return_, 0, 0, 0, .null, [])]
def sm_t1 : List sm_I := [(0, 1, .iload_n 1, 1, 0, 0, .null, []),
  (1, 4, .ifCond .lt 15, 16, 0, 0, .null, []),
  (4, 5, .iload_n 1, 1, 0, 0, .null, []),
  (5, 6, .aload_n 0, 0, 0, 0, .null, []),
  (6, 9, .getfield 30, 0, 0, 86, .null, []),
  (9, 12, .if_icmp .ge 7, 16, 0, 0, .null, []),
  (12, 13, .iconst 1, 0, 0, 0, .int (nI 1), []),
  (13, 16, .goto 4, 17, 0, 0, .null, []),
  (16, 17, .iconst 0, 0, 0, 0, .int (nI 0), []),
  (17, 18, .ireturn, 0, 1, 0, .null, [])]
def sm_t2 : List sm_I := [(0, 1, .iload_n 1, 1, 0, 0, .null, []),
  (1, 4, .ifCond .lt 15, 16, 0, 0, .null, []),
  (4, 5, .iload_n 1, 1, 0, 0, .null, []),
  (5, 6, .aload_n 0, 0, 0, 0, .null, []),
  (6, 9, .getfield 34, 0, 2, 93, .null, []),
  (9, 12, .if_icmp .ge 7, 16, 0, 0, .null, []),
  (12, 13, .iconst 1, 0, 0, 0, .int (nI 1), []),
  (13, 16, .goto 4, 17, 0, 0, .null, []),
  (16, 17, .iconst 0, 0, 0, 0, .int (nI 0), []),
  (17, 18, .ireturn, 0, 1, 0, .null, [])]
def sm_t3 : List sm_I := [(0, 1, .aload_n 0, 0, 0, 0, .null, []),
  (1, 2, .aload_n 1, 1, 0, 0, .null, []),
  (2, 5, .getfield 37, 1, 1, 73, .null, []),
  (5, 7, .bipush 6, 0, 0, 0, .int (nI 6), []),
  (7, 10, .if_icmp .ge 10, 17, 0, 0, .null, []),
  (10, 11, .aload_n 1, 1, 0, 0, .null, []),
  (11, 14, .getfield 37, 1, 1, 73, .null, []),
  (14, 17, .goto 5, 19, 0, 0, .null, []),
  (17, 19, .bipush 6, 0, 0, 0, .int (nI 6), []),
  (19, 22, .putfield 30, 0, 0, 86, .int 0, []),
  (22, 23, .iconst 0, 0, 0, 0, .int (nI 0), []),
  (23, 24, .istore_n 2, 2, 0, 0, .null, []),
  (24, 25, .iload_n 2, 2, 0, 0, .null, []),
  (25, 26, .aload_n 0, 0, 0, 0, .null, []),
  (26, 29, .getfield 30, 0, 0, 86, .null, []),
  (29, 32, .if_icmp .ge 24, 53, 0, 0, .null, []),
  (32, 33, .aload_n 0, 0, 0, 0, .null, []),
  (33, 36, .getfield 9, 0, 1, 90, .null, []),
  (36, 37, .iload_n 2, 2, 0, 0, .null, []),
  (37, 38, .aload_n 1, 1, 0, 0, .null, []),
  (38, 41, .getfield 42, 1, 0, 69, .null, []),
  (41, 42, .iload_n 2, 2, 0, 0, .null, []),
  (42, 43, .iaload, 0, 0, 0, .null, []),
  (43, 46, .invokestatic 45, 25, 1, 233, .null, []),
  (46, 47, .iastore, 0, 0, 0, .null, []),
  (47, 50, .iinc 2 1, 2, 0, 0, .int (nI 1), []),
  (50, 53, .goto (-26), 24, 0, 0, .null, []),
  (53, 54, .aload_n 0, 0, 0, 0, .null, []),
  (54, 55, .iconst 0, 0, 0, 0, .int (nI 0), []),
  (55, 58, .putfield 34, 0, 2, 93, .int 0, []),
  (58, 59, .aload_n 0, 0, 0, 0, .null, []),
  (59, 62, .invokevirtual 49, 6, 0, 234, .ref 0, []),
  (62, 63, .return_, 0, 0, 0, .null, [])]
def sm_t4 : List sm_I := [(0, 1, .aload_n 0, 0, 0, 0, .null, []),
  (1, 4, .getfield 34, 0, 2, 93, .null, []),
  (4, 5, .iconst 4, 0, 0, 0, .int (nI 4), []),
  (5, 8, .if_icmp .lt 4, 9, 0, 0, .null, []),
  (8, 9, .return_, 0, 0, 0, .null, []),
  (9, 10, .aload_n 0, 0, 0, 0, .null, []),
  (10, 13, .getfield 15, 0, 3, 96, .null, []),
  (13, 14, .aload_n 0, 0, 0, 0, .null, []),
  (14, 17, .getfield 34, 0, 2, 93, .null, []),
  (17, 18, .iload_n 1, 1, 0, 0, .null, []),
  (18, 19, .iastore, 0, 0, 0, .null, []),
  (19, 20, .aload_n 0, 0, 0, 0, .null, []),
  (20, 23, .getfield 18, 0, 4, 98, .null, []),
  (23, 24, .aload_n 0, 0, 0, 0, .null, []),
  (24, 27, .getfield 34, 0, 2, 93, .null, []),
  (27, 28, .iload_n 2, 2, 0, 0, .null, []),
  (28, 29, .iastore, 0, 0, 0, .null, []),
  (29, 30, .aload_n 0, 0, 0, 0, .null, []),
  (30, 33, .getfield 21, 0, 5, 100, .null, []),
  (33, 34, .aload_n 0, 0, 0, 0, .null, []),
  (34, 37, .getfield 34, 0, 2, 93, .null, []),
  (37, 38, .iload_n 3, 3, 0, 0, .null, []),
  (38, 39, .iastore, 0, 0, 0, .null, []),
  (39, 40, .aload_n 0, 0, 0, 0, .null, []),
  (40, 41, .dup, 0, 0, 0, .null, []),
  (41, 44, .getfield 34, 0, 2, 93, .null, []),
  (44, 45, .iconst 1, 0, 0, 0, .int (nI 1), []),
  (45, 46, .iadd, 0, 0, 0, .null, []),
  (46, 49, .putfield 34, 0, 2, 93, .int 0, []),
  (49, 50, .return_, 0, 0, 0, .null, [])]
def sm_t5 : List sm_I := [(0, 1, .aload_n 0, 0, 0, 0, .null, []),
  (1, 4, .getfield 27, 0, 8, 106, .null, []),
  (4, 5, .iload_n 1, 1, 0, 0, .null, []),
  (5, 7, .bipush 6, 0, 0, 0, .int (nI 6), []),
  (7, 8, .imul, 0, 0, 0, .null, []),
  (8, 9, .iload_n 2, 2, 0, 0, .null, []),
  (9, 10, .iadd, 0, 0, 0, .null, []),
  (10, 11, .dup2, 0, 0, 0, .null, []),
  (11, 12, .iaload, 0, 0, 0, .null, []),
  (12, 13, .iconst 1, 0, 0, 0, .int (nI 1), []),
  (13, 14, .iload_n 3, 3, 0, 0, .null, []),
  (14, 15, .ishl, 0, 0, 0, .null, []),
  (15, 16, .iand, 0, 0, 0, .null, []),
  (16, 17, .iastore, 0, 0, 0, .null, []),
  (17, 18, .aload_n 0, 0, 0, 0, .null, []),
  (18, 21, .getfield 24, 0, 7, 104, .null, []),
  (21, 22, .iload_n 1, 1, 0, 0, .null, []),
  (22, 23, .dup2, 0, 0, 0, .null, []),
  (23, 24, .iaload, 0, 0, 0, .null, []),
  (24, 25, .iconst 1, 0, 0, 0, .int (nI 1), []),
  (25, 26, .iadd, 0, 0, 0, .null, []),
  (26, 27, .iastore, 0, 0, 0, .null, []),
  (27, 28, .aload_n 0, 0, 0, 0, .null, []),
  (28, 29, .dup, 0, 0, 0, .null, []),
  (29, 32, .getfield 52, 0, 6, 102, .null, []),
  (32, 33, .iconst 1, 0, 0, 0, .int (nI 1), []),
  (33, 34, .iadd, 0, 0, 0, .null, []),
  (34, 37, .putfield 52, 0, 6, 102, .int 0, []),
  (37, 38, .return_, 0, 0, 0, .null, [])]
def sm_t6 : List sm_I := [(0, 1, .aload_n 0, 0, 0, 0, .null, []),
  (1, 2, .iconst 0, 0, 0, 0, .int (nI 0), []),
  (2, 5, .putfield 52, 0, 6, 102, .int 0, []),
  (5, 6, .iconst 0, 0, 0, 0, .int (nI 0), []),
  (6, 7, .istore_n 1, 1, 0, 0, .null, []),
  (7, 8, .iload_n 1, 1, 0, 0, .null, []),
  (8, 9, .iconst 4, 0, 0, 0, .int (nI 4), []),
  (9, 12, .if_icmp .ge 16, 25, 0, 0, .null, []),
  (12, 13, .aload_n 0, 0, 0, 0, .null, []),
  (13, 16, .getfield 24, 0, 7, 104, .null, []),
  (16, 17, .iload_n 1, 1, 0, 0, .null, []),
  (17, 18, .iconst 0, 0, 0, 0, .int (nI 0), []),
  (18, 19, .iastore, 0, 0, 0, .null, []),
  (19, 22, .iinc 1 1, 1, 0, 0, .int (nI 1), []),
  (22, 25, .goto (-15), 7, 0, 0, .null, []),
  (25, 26, .iconst 0, 0, 0, 0, .int (nI 0), []),
  (26, 27, .istore_n 1, 1, 0, 0, .null, []),
  (27, 28, .iload_n 1, 1, 0, 0, .null, []),
  (28, 29, .aload_n 0, 0, 0, 0, .null, []),
  (29, 32, .getfield 27, 0, 8, 106, .null, []),
  (32, 33, .arraylength, 0, 0, 0, .null, []),
  (33, 36, .if_icmp .ge 17, 50, 0, 0, .null, []),
  (36, 37, .aload_n 0, 0, 0, 0, .null, []),
  (37, 40, .getfield 27, 0, 8, 106, .null, []),
  (40, 41, .iload_n 1, 1, 0, 0, .null, []),
  (41, 43, .bipush 15, 0, 0, 0, .int (nI 15), []),
  (43, 44, .iastore, 0, 0, 0, .null, []),
  (44, 47, .iinc 1 1, 1, 0, 0, .int (nI 1), []),
  (47, 50, .goto (-20), 27, 0, 0, .null, []),
  (50, 51, .return_, 0, 0, 0, .null, [])]
def sm_t7 : List sm_I := [(0, 1, .aload_n 0, 0, 0, 0, .null, []),
  (1, 2, .aload_n 1, 1, 0, 0, .null, []),
  (2, 5, .getfield 30, 0, 0, 86, .null, []),
  (5, 8, .putfield 30, 0, 0, 86, .int 0, []),
  (8, 9, .aload_n 0, 0, 0, 0, .null, []),
  (9, 10, .aload_n 1, 1, 0, 0, .null, []),
  (10, 13, .getfield 34, 0, 2, 93, .null, []),
  (13, 16, .putfield 34, 0, 2, 93, .int 0, []),
  (16, 17, .aload_n 0, 0, 0, 0, .null, []),
  (17, 18, .aload_n 1, 1, 0, 0, .null, []),
  (18, 21, .getfield 52, 0, 6, 102, .null, []),
  (21, 24, .putfield 52, 0, 6, 102, .int 0, []),
  (24, 25, .iconst 0, 0, 0, 0, .int (nI 0), []),
  (25, 26, .istore_n 2, 2, 0, 0, .null, []),
  (26, 27, .iload_n 2, 2, 0, 0, .null, []),
  (27, 29, .bipush 6, 0, 0, 0, .int (nI 6), []),
  (29, 32, .if_icmp .ge 21, 50, 0, 0, .null, []),
  (32, 33, .aload_n 0, 0, 0, 0, .null, []),
  (33, 36, .getfield 9, 0, 1, 90, .null, []),
  (36, 37, .iload_n 2, 2, 0, 0, .null, []),
  (37, 38, .aload_n 1, 1, 0, 0, .null, []),
  (38, 41, .getfield 9, 0, 1, 90, .null, []),
  (41, 42, .iload_n 2, 2, 0, 0, .null, []),
  (42, 43, .iaload, 0, 0, 0, .null, []),
  (43, 44, .iastore, 0, 0, 0, .null, []),
  (44, 47, .iinc 2 1, 2, 0, 0, .int (nI 1), []),
  (47, 50, .goto (-21), 26, 0, 0, .null, []),
  (50, 51, .iconst 0, 0, 0, 0, .int (nI 0), []),
  (51, 52, .istore_n 2, 2, 0, 0, .null, []),
  (52, 53, .iload_n 2, 2, 0, 0, .null, []),
  (53, 54, .iconst 4, 0, 0, 0, .int (nI 4), []),
  (54, 57, .if_icmp .ge 57, 111, 0, 0, .null, []),
  (57, 58, .aload_n 0, 0, 0, 0, .null, []),
  (58, 61, .getfield 15, 0, 3, 96, .null, []),
  (61, 62, .iload_n 2, 2, 0, 0, .null, []),
  (62, 63, .aload_n 1, 1, 0, 0, .null, []),
  (63, 66, .getfield 15, 0, 3, 96, .null, []),
  (66, 67, .iload_n 2, 2, 0, 0, .null, []),
  (67, 68, .iaload, 0, 0, 0, .null, []),
  (68, 69, .iastore, 0, 0, 0, .null, []),
  (69, 70, .aload_n 0, 0, 0, 0, .null, []),
  (70, 73, .getfield 18, 0, 4, 98, .null, []),
  (73, 74, .iload_n 2, 2, 0, 0, .null, []),
  (74, 75, .aload_n 1, 1, 0, 0, .null, []),
  (75, 78, .getfield 18, 0, 4, 98, .null, []),
  (78, 79, .iload_n 2, 2, 0, 0, .null, []),
  (79, 80, .iaload, 0, 0, 0, .null, []),
  (80, 81, .iastore, 0, 0, 0, .null, []),
  (81, 82, .aload_n 0, 0, 0, 0, .null, []),
  (82, 85, .getfield 21, 0, 5, 100, .null, []),
  (85, 86, .iload_n 2, 2, 0, 0, .null, []),
  (86, 87, .aload_n 1, 1, 0, 0, .null, []),
  (87, 90, .getfield 21, 0, 5, 100, .null, []),
  (90, 91, .iload_n 2, 2, 0, 0, .null, []),
  (91, 92, .iaload, 0, 0, 0, .null, []),
  (92, 93, .iastore, 0, 0, 0, .null, []),
  (93, 94, .aload_n 0, 0, 0, 0, .null, []),
  (94, 97, .getfield 24, 0, 7, 104, .null, []),
  (97, 98, .iload_n 2, 2, 0, 0, .null, []),
  (98, 99, .aload_n 1, 1, 0, 0, .null, []),
  (99, 102, .getfield 24, 0, 7, 104, .null, []),
  (102, 103, .iload_n 2, 2, 0, 0, .null, []),
  (103, 104, .iaload, 0, 0, 0, .null, []),
  (104, 105, .iastore, 0, 0, 0, .null, []),
  (105, 108, .iinc 2 1, 2, 0, 0, .int (nI 1), []),
  (108, 111, .goto (-56), 52, 0, 0, .null, []),
  (111, 112, .iconst 0, 0, 0, 0, .int (nI 0), []),
  (112, 113, .istore_n 2, 2, 0, 0, .null, []),
  (113, 114, .iload_n 2, 2, 0, 0, .null, []),
  (114, 115, .aload_n 0, 0, 0, 0, .null, []),
  (115, 118, .getfield 27, 0, 8, 106, .null, []),
  (118, 119, .arraylength, 0, 0, 0, .null, []),
  (119, 122, .if_icmp .ge 21, 140, 0, 0, .null, []),
  (122, 123, .aload_n 0, 0, 0, 0, .null, []),
  (123, 126, .getfield 27, 0, 8, 106, .null, []),
  (126, 127, .iload_n 2, 2, 0, 0, .null, []),
  (127, 128, .aload_n 1, 1, 0, 0, .null, []),
  (128, 131, .getfield 27, 0, 8, 106, .null, []),
  (131, 132, .iload_n 2, 2, 0, 0, .null, []),
  (132, 133, .iaload, 0, 0, 0, .null, []),
  (133, 134, .iastore, 0, 0, 0, .null, []),
  (134, 137, .iinc 2 1, 2, 0, 0, .int (nI 1), []),
  (137, 140, .goto (-24), 113, 0, 0, .null, []),
  (140, 141, .return_, 0, 0, 0, .null, [])]
def sm_t8 : List sm_I := [(0, 1, .iconst 0, 0, 0, 0, .int (nI 0), []),
  (1, 2, .istore_n 1, 1, 0, 0, .null, []),
  (2, 3, .iconst 0, 0, 0, 0, .int (nI 0), []),
  (3, 4, .istore_n 2, 2, 0, 0, .null, []),
  (4, 5, .iload_n 2, 2, 0, 0, .null, []),
  (5, 6, .aload_n 0, 0, 0, 0, .null, []),
  (6, 9, .getfield 30, 0, 0, 86, .null, []),
  (9, 12, .if_icmp .ge 22, 31, 0, 0, .null, []),
  (12, 13, .aload_n 0, 0, 0, 0, .null, []),
  (13, 16, .getfield 9, 0, 1, 90, .null, []),
  (16, 17, .iload_n 2, 2, 0, 0, .null, []),
  (17, 18, .iaload, 0, 0, 0, .null, []),
  (18, 19, .iconst (-1), 0, 0, 0, .int (-1), []),
  (19, 22, .if_icmp .eq 6, 25, 0, 0, .null, []),
  (22, 25, .iinc 1 1, 1, 0, 0, .int (nI 1), []),
  (25, 28, .iinc 2 1, 2, 0, 0, .int (nI 1), []),
  (28, 31, .goto (-24), 4, 0, 0, .null, []),
  (31, 32, .iload_n 1, 1, 0, 0, .null, []),
  (32, 33, .ireturn, 0, 0, 0, .null, [])]
def sm_t9 : List sm_I := [(0, 1, .iconst 0, 0, 0, 0, .int (nI 0), []),
  (1, 2, .istore_n 2, 2, 0, 0, .null, []),
  (2, 3, .iload_n 2, 2, 0, 0, .null, []),
  (3, 4, .iload_n 1, 1, 0, 0, .null, []),
  (4, 7, .if_icmp .gt 29, 33, 0, 0, .null, []),
  (7, 8, .iload_n 2, 2, 0, 0, .null, []),
  (8, 9, .aload_n 0, 0, 0, 0, .null, []),
  (9, 12, .getfield 30, 0, 0, 86, .null, []),
  (12, 15, .if_icmp .ge 21, 33, 0, 0, .null, []),
  (15, 16, .aload_n 0, 0, 0, 0, .null, []),
  (16, 19, .getfield 9, 0, 1, 90, .null, []),
  (19, 20, .iload_n 2, 2, 0, 0, .null, []),
  (20, 21, .iaload, 0, 0, 0, .null, []),
  (21, 22, .iconst (-1), 0, 0, 0, .int (-1), []),
  (22, 25, .if_icmp .ne 5, 27, 0, 0, .null, []),
  (25, 26, .iconst 0, 0, 0, 0, .int (nI 0), []),
  (26, 27, .ireturn, 0, 1, 0, .null, []),
  (27, 30, .iinc 2 1, 2, 0, 0, .int (nI 1), []),
  (30, 33, .goto (-28), 2, 0, 0, .null, []),
  (33, 34, .iconst 1, 0, 0, 0, .int (nI 1), []),
  (34, 35, .ireturn, 0, 1, 0, .null, [])]
def sm_t10 : List sm_I := [(0, 1, .aload_n 0, 0, 0, 0, .null, []),
  (1, 4, .getfield 9, 0, 1, 90, .null, []),
  (4, 5, .iload_n 1, 1, 0, 0, .null, []),
  (5, 6, .iaload, 0, 0, 0, .null, []),
  (6, 7, .iconst (-1), 0, 0, 0, .int (-1), []),
  (7, 10, .if_icmp .eq 13, 20, 0, 0, .null, []),
  (10, 11, .aload_n 0, 0, 0, 0, .null, []),
  (11, 14, .getfield 9, 0, 1, 90, .null, []),
  (14, 15, .iload_n 1, 1, 0, 0, .null, []),
  (15, 16, .iaload, 0, 0, 0, .null, []),
  (16, 17, .iload_n 2, 2, 0, 0, .null, []),
  (17, 20, .if_icmp .ne 7, 24, 0, 0, .null, []),
  (20, 21, .iconst 1, 0, 0, 0, .int (nI 1), []),
  (21, 24, .goto 4, 25, 0, 0, .null, []),
  (24, 25, .iconst 0, 0, 0, 0, .int (nI 0), []),
  (25, 26, .ireturn, 0, 1, 0, .null, [])]
def sm_t11 : List sm_I := [(0, 1, .iload_n 0, 0, 0, 0, .null, []),
  (1, 32, .tableswitch 64 1 4 #[31, 37, 48, 54], 65, 31, 0, .null, [((nI 1), 32), ((nI 2), 38), ((nI 3), 49), ((nI 4), 55)]),
  (32, 33, .iload_n 2, 2, 0, 0, .null, []),
  (33, 34, .iload_n 3, 3, 0, 0, .null, []),
  (34, 37, .invokestatic 55, 12, 2, 274, .null, []),
  (37, 38, .ireturn, 0, 0, 0, .null, []),
  (38, 39, .iload_n 3, 3, 0, 0, .null, []),
  (39, 40, .iload_n 1, 1, 0, 0, .null, []),
  (40, 43, .if_icmp .ne 7, 47, 0, 0, .null, []),
  (43, 44, .iload_n 2, 2, 0, 0, .null, []),
  (44, 47, .goto 4, 48, 0, 0, .null, []),
  (47, 48, .iload_n 3, 3, 0, 0, .null, []),
  (48, 49, .ireturn, 0, 0, 0, .null, []),
  (49, 50, .iload_n 3, 3, 0, 0, .null, []),
  (50, 51, .iload_n 1, 1, 0, 0, .null, []),
  (51, 52, .iadd, 0, 0, 0, .null, []),
  (52, 53, .iconst 3, 0, 0, 0, .int (nI 3), []),
  (53, 54, .iand, 0, 0, 0, .null, []),
  (54, 55, .ireturn, 0, 0, 0, .null, []),
  (55, 56, .iload_n 2, 2, 0, 0, .null, []),
  (56, 57, .iload_n 3, 3, 0, 0, .null, []),
  (57, 58, .iload_n 1, 1, 0, 0, .null, []),
  (58, 59, .iadd, 0, 0, 0, .null, []),
  (59, 60, .iconst 3, 0, 0, 0, .int (nI 3), []),
  (60, 61, .iand, 0, 0, 0, .null, []),
  (61, 64, .invokestatic 55, 12, 2, 274, .null, []),
  (64, 65, .ireturn, 0, 0, 0, .null, []),
  (65, 66, .iload_n 3, 3, 0, 0, .null, []),
  (66, 67, .ireturn, 0, 0, 0, .null, [])]
def sm_t12 : List sm_I := [(0, 1, .iload_n 1, 1, 0, 0, .null, []),
  (1, 2, .iload_n 0, 0, 0, 0, .null, []),
  (2, 3, .isub, 0, 0, 0, .null, []),
  (3, 4, .iconst 3, 0, 0, 0, .int (nI 3), []),
  (4, 5, .iand, 0, 0, 0, .null, []),
  (5, 6, .istore_n 2, 2, 0, 0, .null, []),
  (6, 7, .iload_n 2, 2, 0, 0, .null, []),
  (7, 10, .ifCond .ne 5, 12, 0, 0, .null, []),
  (10, 11, .iload_n 0, 0, 0, 0, .null, []),
  (11, 12, .ireturn, 0, 0, 0, .null, []),
  (12, 13, .iload_n 2, 2, 0, 0, .null, []),
  (13, 14, .iconst 3, 0, 0, 0, .int (nI 3), []),
  (14, 17, .if_icmp .ne 11, 25, 0, 0, .null, []),
  (17, 18, .iload_n 0, 0, 0, 0, .null, []),
  (18, 19, .iconst 3, 0, 0, 0, .int (nI 3), []),
  (19, 20, .iadd, 0, 0, 0, .null, []),
  (20, 21, .iconst 3, 0, 0, 0, .int (nI 3), []),
  (21, 22, .iand, 0, 0, 0, .null, []),
  (22, 25, .goto 8, 30, 0, 0, .null, []),
  (25, 26, .iload_n 0, 0, 0, 0, .null, []),
  (26, 27, .iconst 1, 0, 0, 0, .int (nI 1), []),
  (27, 28, .iadd, 0, 0, 0, .null, []),
  (28, 29, .iconst 3, 0, 0, 0, .int (nI 3), []),
  (29, 30, .iand, 0, 0, 0, .null, []),
  (30, 31, .ireturn, 0, 0, 0, .null, [])]
def sm_t13 : List sm_I := [(0, 1, .iconst 0, 0, 0, 0, .int (nI 0), []),
  (1, 2, .istore_n 1, 1, 0, 0, .null, []),
  (2, 3, .iconst 0, 0, 0, 0, .int (nI 0), []),
  (3, 4, .istore_n 2, 2, 0, 0, .null, []),
  (4, 5, .iload_n 2, 2, 0, 0, .null, []),
  (5, 6, .aload_n 0, 0, 0, 0, .null, []),
  (6, 9, .getfield 34, 0, 2, 93, .null, []),
  (9, 12, .if_icmp .ge 22, 31, 0, 0, .null, []),
  (12, 13, .iload_n 1, 1, 0, 0, .null, []),
  (13, 14, .aload_n 0, 0, 0, 0, .null, []),
  (14, 17, .getfield 18, 0, 4, 98, .null, []),
  (17, 18, .iload_n 2, 2, 0, 0, .null, []),
  (18, 19, .iaload, 0, 0, 0, .null, []),
  (19, 20, .iconst 2, 0, 0, 0, .int (nI 2), []),
  (20, 21, .iload_n 2, 2, 0, 0, .null, []),
  (21, 22, .imul, 0, 0, 0, .null, []),
  (22, 23, .ishl, 0, 0, 0, .null, []),
  (23, 24, .ior, 0, 0, 0, .null, []),
  (24, 25, .istore_n 1, 1, 0, 0, .null, []),
  (25, 28, .iinc 2 1, 2, 0, 0, .int (nI 1), []),
  (28, 31, .goto (-24), 4, 0, 0, .null, []),
  (31, 32, .iload_n 1, 1, 0, 0, .null, []),
  (32, 33, .ireturn, 0, 0, 0, .null, [])]
def sm_t14 : List sm_I := [(0, 1, .iconst 0, 0, 0, 0, .int (nI 0), []),
  (1, 2, .istore_n 3, 3, 0, 0, .null, []),
  (2, 3, .iconst 0, 0, 0, 0, .int (nI 0), []),
  (3, 5, .istore 4, 4, 0, 0, .null, []),
  (5, 7, .iload 4, 4, 0, 0, .null, []),
  (7, 8, .aload_n 0, 0, 0, 0, .null, []),
  (8, 11, .getfield 34, 0, 2, 93, .null, []),
  (11, 14, .if_icmp .ge 43, 54, 0, 0, .null, []),
  (14, 15, .iload_n 3, 3, 0, 0, .null, []),
  (15, 16, .aload_n 0, 0, 0, 0, .null, []),
  (16, 19, .getfield 15, 0, 3, 96, .null, []),
  (19, 21, .iload 4, 4, 0, 0, .null, []),
  (21, 22, .iaload, 0, 0, 0, .null, []),
  (22, 23, .aload_n 0, 0, 0, 0, .null, []),
  (23, 26, .getfield 21, 0, 5, 100, .null, []),
  (26, 28, .iload 4, 4, 0, 0, .null, []),
  (28, 29, .iaload, 0, 0, 0, .null, []),
  (29, 30, .iload_n 1, 1, 0, 0, .null, []),
  (30, 31, .iconst 2, 0, 0, 0, .int (nI 2), []),
  (31, 33, .iload 4, 4, 0, 0, .null, []),
  (33, 34, .imul, 0, 0, 0, .null, []),
  (34, 35, .ishr, 0, 0, 0, .null, []),
  (35, 36, .iconst 3, 0, 0, 0, .int (nI 3), []),
  (36, 37, .iand, 0, 0, 0, .null, []),
  (37, 38, .iload_n 2, 2, 0, 0, .null, []),
  (38, 41, .invokestatic 59, 11, 4, 325, .null, []),
  (41, 42, .iconst 2, 0, 0, 0, .int (nI 2), []),
  (42, 44, .iload 4, 4, 0, 0, .null, []),
  (44, 45, .imul, 0, 0, 0, .null, []),
  (45, 46, .ishl, 0, 0, 0, .null, []),
  (46, 47, .ior, 0, 0, 0, .null, []),
  (47, 48, .istore_n 3, 3, 0, 0, .null, []),
  (48, 51, .iinc 4 1, 4, 0, 0, .int (nI 1), []),
  (51, 54, .goto (-46), 5, 0, 0, .null, []),
  (54, 55, .iload_n 3, 3, 0, 0, .null, []),
  (55, 56, .ireturn, 0, 0, 0, .null, [])]
def sm_t15 : List sm_I := [(0, 1, .iconst 0, 0, 0, 0, .int (nI 0), []),
  (1, 2, .istore_n 3, 3, 0, 0, .null, []),
  (2, 3, .iload_n 3, 3, 0, 0, .null, []),
  (3, 4, .aload_n 0, 0, 0, 0, .null, []),
  (4, 7, .getfield 34, 0, 2, 93, .null, []),
  (7, 10, .if_icmp .ge 39, 46, 0, 0, .null, []),
  (10, 11, .iload_n 2, 2, 0, 0, .null, []),
  (11, 12, .iconst 2, 0, 0, 0, .int (nI 2), []),
  (12, 13, .iload_n 3, 3, 0, 0, .null, []),
  (13, 14, .imul, 0, 0, 0, .null, []),
  (14, 15, .ishr, 0, 0, 0, .null, []),
  (15, 16, .iconst 3, 0, 0, 0, .int (nI 3), []),
  (16, 17, .iand, 0, 0, 0, .null, []),
  (17, 19, .istore 4, 4, 0, 0, .null, []),
  (19, 20, .aload_n 0, 0, 0, 0, .null, []),
  (20, 23, .getfield 27, 0, 8, 106, .null, []),
  (23, 24, .iload_n 3, 3, 0, 0, .null, []),
  (24, 26, .bipush 6, 0, 0, 0, .int (nI 6), []),
  (26, 27, .imul, 0, 0, 0, .null, []),
  (27, 28, .iload_n 1, 1, 0, 0, .null, []),
  (28, 29, .iadd, 0, 0, 0, .null, []),
  (29, 30, .iaload, 0, 0, 0, .null, []),
  (30, 32, .iload 4, 4, 0, 0, .null, []),
  (32, 33, .ishr, 0, 0, 0, .null, []),
  (33, 34, .iconst 1, 0, 0, 0, .int (nI 1), []),
  (34, 35, .iand, 0, 0, 0, .null, []),
  (35, 38, .ifCond .ne 5, 40, 0, 0, .null, []),
  (38, 39, .iconst 0, 0, 0, 0, .int (nI 0), []),
  (39, 40, .ireturn, 0, 1, 0, .null, []),
  (40, 43, .iinc 3 1, 3, 0, 0, .int (nI 1), []),
  (43, 46, .goto (-41), 2, 0, 0, .null, []),
  (46, 47, .iconst 1, 0, 0, 0, .int (nI 1), []),
  (47, 48, .ireturn, 0, 1, 0, .null, [])]
def sm_t16 : List sm_I := [(0, 1, .aload_n 0, 0, 0, 0, .null, []),
  (1, 2, .iconst 0, 0, 0, 0, .int (nI 0), []),
  (2, 3, .aload_n 0, 0, 0, 0, .null, []),
  (3, 6, .invokevirtual 63, 13, 0, 430, .ref 0, []),
  (6, 9, .invokevirtual 67, 17, 2, 431, .ref 0, []),
  (9, 10, .ireturn, 0, 1, 0, .null, [])]
def sm_t17 : List sm_I := [(0, 1, .iload_n 1, 1, 0, 0, .null, []),
  (1, 2, .aload_n 0, 0, 0, 0, .null, []),
  (2, 5, .getfield 30, 0, 0, 86, .null, []),
  (5, 8, .if_icmp .lt 5, 10, 0, 0, .null, []),
  (8, 9, .iconst 1, 0, 0, 0, .int (nI 1), []),
  (9, 10, .ireturn, 0, 1, 0, .null, []),
  (10, 11, .iconst 0, 0, 0, 0, .int (nI 0), []),
  (11, 12, .istore_n 3, 3, 0, 0, .null, []),
  (12, 13, .iload_n 3, 3, 0, 0, .null, []),
  (13, 14, .iconst 4, 0, 0, 0, .int (nI 4), []),
  (14, 17, .if_icmp .ge 53, 67, 0, 0, .null, []),
  (17, 18, .aload_n 0, 0, 0, 0, .null, []),
  (18, 19, .iload_n 1, 1, 0, 0, .null, []),
  (19, 20, .iload_n 3, 3, 0, 0, .null, []),
  (20, 23, .invokevirtual 71, 10, 2, 435, .ref 0, []),
  (23, 26, .ifCond .ne 6, 29, 0, 0, .null, []),
  (26, 29, .goto 35, 61, 0, 0, .null, []),
  (29, 30, .aload_n 0, 0, 0, 0, .null, []),
  (30, 31, .iload_n 2, 2, 0, 0, .null, []),
  (31, 32, .iload_n 3, 3, 0, 0, .null, []),
  (32, 35, .invokevirtual 74, 14, 2, 436, .ref 0, []),
  (35, 37, .istore 4, 4, 0, 0, .null, []),
  (37, 38, .aload_n 0, 0, 0, 0, .null, []),
  (38, 39, .iload_n 1, 1, 0, 0, .null, []),
  (39, 41, .iload 4, 4, 0, 0, .null, []),
  (41, 44, .invokevirtual 77, 15, 2, 437, .ref 0, []),
  (44, 47, .ifCond .eq 17, 61, 0, 0, .null, []),
  (47, 48, .aload_n 0, 0, 0, 0, .null, []),
  (48, 49, .iload_n 1, 1, 0, 0, .null, []),
  (49, 50, .iconst 1, 0, 0, 0, .int (nI 1), []),
  (50, 51, .iadd, 0, 0, 0, .null, []),
  (51, 53, .iload 4, 4, 0, 0, .null, []),
  (53, 56, .invokevirtual 67, 17, 2, 431, .ref 0, []),
  (56, 59, .ifCond .eq 5, 61, 0, 0, .null, []),
  (59, 60, .iconst 1, 0, 0, 0, .int (nI 1), []),
  (60, 61, .ireturn, 0, 1, 0, .null, []),
  (61, 64, .iinc 3 1, 3, 0, 0, .int (nI 1), []),
  (64, 67, .goto (-52), 12, 0, 0, .null, []),
  (67, 68, .iconst 0, 0, 0, 0, .int (nI 0), []),
  (68, 69, .ireturn, 0, 1, 0, .null, [])]
def sm_t18 : List sm_I := [(0, 1, .aload_n 0, 0, 0, 0, .null, []),
  (1, 4, .getfield 18, 0, 4, 98, .null, []),
  (4, 5, .iload_n 1, 1, 0, 0, .null, []),
  (5, 6, .iaload, 0, 0, 0, .null, []),
  (6, 8, .istore 4, 4, 0, 0, .null, []),
  (8, 9, .iconst 0, 0, 0, 0, .int (nI 0), []),
  (9, 11, .istore 5, 5, 0, 0, .null, []),
  (11, 13, .iload 5, 5, 0, 0, .null, []),
  (13, 14, .iload_n 3, 3, 0, 0, .null, []),
  (14, 17, .if_icmp .gt 39, 53, 0, 0, .null, []),
  (17, 19, .iload 5, 5, 0, 0, .null, []),
  (19, 20, .aload_n 0, 0, 0, 0, .null, []),
  (20, 23, .getfield 30, 0, 0, 86, .null, []),
  (23, 26, .if_icmp .ge 30, 53, 0, 0, .null, []),
  (26, 27, .aload_n 0, 0, 0, 0, .null, []),
  (27, 30, .getfield 15, 0, 3, 96, .null, []),
  (30, 31, .iload_n 1, 1, 0, 0, .null, []),
  (31, 32, .iaload, 0, 0, 0, .null, []),
  (32, 33, .iload_n 2, 2, 0, 0, .null, []),
  (33, 35, .iload 4, 4, 0, 0, .null, []),
  (35, 36, .aload_n 0, 0, 0, 0, .null, []),
  (36, 39, .getfield 9, 0, 1, 90, .null, []),
  (39, 41, .iload 5, 5, 0, 0, .null, []),
  (41, 42, .iaload, 0, 0, 0, .null, []),
  (42, 45, .invokestatic 59, 11, 4, 325, .null, []),
  (45, 47, .istore 4, 4, 0, 0, .null, []),
  (47, 50, .iinc 5 1, 5, 0, 0, .int (nI 1), []),
  (50, 53, .goto (-39), 11, 0, 0, .null, []),
  (53, 55, .iload 4, 4, 0, 0, .null, []),
  (55, 56, .ireturn, 0, 0, 0, .null, [])]
def sm_t19 : List sm_I := [(0, 1, .iconst 0, 0, 0, 0, .int (nI 0), []),
  (1, 2, .istore_n 3, 3, 0, 0, .null, []),
  (2, 3, .iconst 0, 0, 0, 0, .int (nI 0), []),
  (3, 5, .istore 4, 4, 0, 0, .null, []),
  (5, 7, .iload 4, 4, 0, 0, .null, []),
  (7, 8, .aload_n 0, 0, 0, 0, .null, []),
  (8, 11, .getfield 34, 0, 2, 93, .null, []),
  (11, 14, .if_icmp .ge 24, 35, 0, 0, .null, []),
  (14, 15, .iload_n 1, 1, 0, 0, .null, []),
  (15, 16, .iconst 2, 0, 0, 0, .int (nI 2), []),
  (16, 18, .iload 4, 4, 0, 0, .null, []),
  (18, 19, .imul, 0, 0, 0, .null, []),
  (19, 20, .ishr, 0, 0, 0, .null, []),
  (20, 21, .iconst 3, 0, 0, 0, .int (nI 3), []),
  (21, 22, .iand, 0, 0, 0, .null, []),
  (22, 23, .iload_n 2, 2, 0, 0, .null, []),
  (23, 26, .if_icmp .ne 6, 29, 0, 0, .null, []),
  (26, 29, .iinc 3 1, 3, 0, 0, .int (nI 1), []),
  (29, 32, .iinc 4 1, 4, 0, 0, .int (nI 1), []),
  (32, 35, .goto (-27), 5, 0, 0, .null, []),
  (35, 36, .iload_n 3, 3, 0, 0, .null, []),
  (36, 37, .ireturn, 0, 0, 0, .null, [])]
def sm_t20 : List sm_I := [(0, 1, .iconst 2, 0, 0, 0, .int (nI 2), []),
  (1, 2, .iload_n 1, 1, 0, 0, .null, []),
  (2, 3, .imul, 0, 0, 0, .null, []),
  (3, 4, .aload_n 0, 0, 0, 0, .null, []),
  (4, 7, .getfield 34, 0, 2, 93, .null, []),
  (7, 10, .if_icmp .le 7, 14, 0, 0, .null, []),
  (10, 11, .iconst 1, 0, 0, 0, .int (nI 1), []),
  (11, 14, .goto 4, 15, 0, 0, .null, []),
  (14, 15, .iconst 0, 0, 0, 0, .int (nI 0), []),
  (15, 16, .ireturn, 0, 1, 0, .null, [])]
def sm_t21 : List sm_I := [(0, 1, .aload_n 0, 0, 0, 0, .null, []),
  (1, 4, .invokespecial 3, 0, 0, 0, .null, []),
  (4, 5, .aload_n 0, 0, 0, 0, .null, []),
  (5, 7, .bipush 8, 0, 0, 0, .int (nI 8), []),
  (7, 9, .newarray .int, 0, 0, 0, .null, []),
  (9, 12, .putfield 9, 1, 0, 68, .ref 0, []),
  (12, 13, .return_, 0, 0, 0, .null, [])]
def sm_t22 : List sm_I := [(0, 1, .aload_n 0, 0, 0, 0, .null, []),
  (1, 4, .getfield 15, 1, 1, 71, .null, []),
  (4, 5, .aload_n 0, 0, 0, 0, .null, []),
  (5, 8, .getfield 9, 1, 0, 68, .null, []),
  (8, 9, .arraylength, 0, 0, 0, .null, []),
  (9, 12, .if_icmp .lt 5, 14, 0, 0, .null, []),
  (12, 13, .iconst 0, 0, 0, 0, .int (nI 0), []),
  (13, 14, .ireturn, 0, 1, 0, .null, []),
  (14, 15, .aload_n 0, 0, 0, 0, .null, []),
  (15, 18, .getfield 9, 1, 0, 68, .null, []),
  (18, 19, .aload_n 0, 0, 0, 0, .null, []),
  (19, 22, .getfield 15, 1, 1, 71, .null, []),
  (22, 23, .iload_n 1, 1, 0, 0, .null, []),
  (23, 24, .iastore, 0, 0, 0, .null, []),
  (24, 25, .aload_n 0, 0, 0, 0, .null, []),
  (25, 26, .dup, 0, 0, 0, .null, []),
  (26, 29, .getfield 15, 1, 1, 71, .null, []),
  (29, 30, .iconst 1, 0, 0, 0, .int (nI 1), []),
  (30, 31, .iadd, 0, 0, 0, .null, []),
  (31, 34, .putfield 15, 1, 1, 71, .int 0, []),
  (34, 35, .iconst 1, 0, 0, 0, .int (nI 1), []),
  (35, 36, .ireturn, 0, 1, 0, .null, [])]
def sm_t23 : List sm_I := [(0, 1, .iconst 0, 0, 0, 0, .int (nI 0), []),
  (1, 2, .istore_n 1, 1, 0, 0, .null, []),
  (2, 3, .iload_n 1, 1, 0, 0, .null, []),
  (3, 4, .aload_n 0, 0, 0, 0, .null, []),
  (4, 7, .getfield 15, 1, 1, 71, .null, []),
  (7, 10, .if_icmp .ge 29, 36, 0, 0, .null, []),
  (10, 11, .iload_n 1, 1, 0, 0, .null, []),
  (11, 13, .bipush 6, 0, 0, 0, .int (nI 6), []),
  (13, 16, .if_icmp .ge 15, 28, 0, 0, .null, []),
  (16, 17, .aload_n 0, 0, 0, 0, .null, []),
  (17, 20, .getfield 9, 1, 0, 68, .null, []),
  (20, 21, .iload_n 1, 1, 0, 0, .null, []),
  (21, 22, .iaload, 0, 0, 0, .null, []),
  (22, 25, .invokestatic 19, 24, 1, 219, .null, []),
  (25, 28, .ifCond .ne 5, 30, 0, 0, .null, []),
  (28, 29, .iload_n 1, 1, 0, 0, .null, []),
  (29, 30, .ireturn, 0, 0, 0, .null, []),
  (30, 33, .iinc 1 1, 1, 0, 0, .int (nI 1), []),
  (33, 36, .goto (-31), 2, 0, 0, .null, []),
  (36, 37, .aload_n 0, 0, 0, 0, .null, []),
  (37, 40, .getfield 15, 1, 1, 71, .null, []),
  (40, 41, .ireturn, 0, 0, 0, .null, [])]
def sm_t24 : List sm_I := [(0, 1, .iload_n 0, 0, 0, 0, .null, []),
  (1, 3, .bipush 63, 0, 0, 0, .int (nI 63), []),
  (3, 6, .if_icmp .eq 11, 14, 0, 0, .null, []),
  (6, 7, .iload_n 0, 0, 0, 0, .null, []),
  (7, 10, .invokestatic 23, 25, 1, 222, .null, []),
  (10, 11, .iconst (-1), 0, 0, 0, .int (-1), []),
  (11, 14, .if_icmp .eq 7, 18, 0, 0, .null, []),
  (14, 15, .iconst 1, 0, 0, 0, .int (nI 1), []),
  (15, 18, .goto 4, 19, 0, 0, .null, []),
  (18, 19, .iconst 0, 0, 0, 0, .int (nI 0), []),
  (19, 20, .ireturn, 0, 1, 0, .null, [])]
def sm_t25 : List sm_I := [(0, 1, .iload_n 0, 0, 0, 0, .null, []),
  (1, 44, .lookupswitch 51 #[(101, 45), (110, 43), (115, 47), (119, 49)], 52, 43, 0, .null, [((nI 101), 46), ((nI 110), 44), ((nI 115), 48), ((nI 119), 50)]),
  (44, 45, .iconst 0, 0, 0, 0, .int (nI 0), []),
  (45, 46, .ireturn, 0, 0, 0, .null, []),
  (46, 47, .iconst 1, 0, 0, 0, .int (nI 1), []),
  (47, 48, .ireturn, 0, 0, 0, .null, []),
  (48, 49, .iconst 2, 0, 0, 0, .int (nI 2), []),
  (49, 50, .ireturn, 0, 0, 0, .null, []),
  (50, 51, .iconst 3, 0, 0, 0, .int (nI 3), []),
  (51, 52, .ireturn, 0, 0, 0, .null, []),
  (52, 53, .iconst (-1), 0, 0, 0, .int (-1), []),
  (53, 54, .ireturn, 0, 0, 0, .null, [])]
def sm_t26 : List sm_I := [(0, 1, .aload_n 0, 0, 0, 0, .null, []),
  (1, 4, .invokespecial 3, 0, 0, 0, .null, []),
  (4, 5, .aload_n 0, 0, 0, 0, .null, []),
  (5, 7, .bipush 96, 0, 0, 0, .int (nI 96), []),
  (7, 9, .newarray .int, 0, 0, 0, .null, []),
  (9, 12, .putfield 9, 2, 1, 133, .ref 0, []),
  (12, 13, .aload_n 0, 0, 0, 0, .null, []),
  (13, 15, .bipush 24, 0, 0, 0, .int (nI 24), []),
  (15, 17, .newarray .int, 0, 0, 0, .null, []),
  (17, 20, .putfield 15, 2, 2, 134, .ref 0, []),
  (20, 21, .aload_n 0, 0, 0, 0, .null, []),
  (21, 22, .iconst 1, 0, 0, 0, .int (nI 1), []),
  (22, 25, .putfield 18, 2, 4, 137, .null, []),
  (25, 26, .aload_n 0, 0, 0, 0, .null, []),
  (26, 27, .aload_n 1, 1, 0, 0, .null, []),
  (27, 30, .putfield 22, 2, 0, 132, .ref 0, []),
  (30, 31, .return_, 0, 0, 0, .null, [])]
def sm_t27 : List sm_I := [(0, 1, .aload_n 0, 0, 0, 0, .null, []),
  (1, 4, .getfield 18, 2, 4, 137, .null, []),
  (4, 7, .ifCond .ne 4, 8, 0, 0, .null, []),
  (7, 8, .return_, 0, 0, 0, .null, []),
  (8, 9, .iconst 0, 0, 0, 0, .int (nI 0), []),
  (9, 10, .istore_n 1, 1, 0, 0, .null, []),
  (10, 11, .iload_n 1, 1, 0, 0, .null, []),
  (11, 12, .aload_n 0, 0, 0, 0, .null, []),
  (12, 15, .getfield 9, 2, 1, 133, .null, []),
  (15, 16, .arraylength, 0, 0, 0, .null, []),
  (16, 19, .if_icmp .ge 16, 32, 0, 0, .null, []),
  (19, 20, .aload_n 0, 0, 0, 0, .null, []),
  (20, 23, .getfield 9, 2, 1, 133, .null, []),
  (23, 24, .iload_n 1, 1, 0, 0, .null, []),
  (24, 25, .iconst 0, 0, 0, 0, .int (nI 0), []),
  (25, 26, .iastore, 0, 0, 0, .null, []),
  (26, 29, .iinc 1 1, 1, 0, 0, .int (nI 1), []),
  (29, 32, .goto (-19), 10, 0, 0, .null, []),
  (32, 33, .iconst 0, 0, 0, 0, .int (nI 0), []),
  (33, 34, .istore_n 1, 1, 0, 0, .null, []),
  (34, 35, .iload_n 1, 1, 0, 0, .null, []),
  (35, 36, .aload_n 0, 0, 0, 0, .null, []),
  (36, 39, .getfield 15, 2, 2, 134, .null, []),
  (39, 40, .arraylength, 0, 0, 0, .null, []),
  (40, 43, .if_icmp .ge 16, 56, 0, 0, .null, []),
  (43, 44, .aload_n 0, 0, 0, 0, .null, []),
  (44, 47, .getfield 15, 2, 2, 134, .null, []),
  (47, 48, .iload_n 1, 1, 0, 0, .null, []),
  (48, 49, .iconst 0, 0, 0, 0, .int (nI 0), []),
  (49, 50, .iastore, 0, 0, 0, .null, []),
  (50, 53, .iinc 1 1, 1, 0, 0, .int (nI 1), []),
  (53, 56, .goto (-19), 34, 0, 0, .null, []),
  (56, 57, .aload_n 0, 0, 0, 0, .null, []),
  (57, 58, .aload_n 0, 0, 0, 0, .null, []),
  (58, 59, .iconst 0, 0, 0, 0, .int (nI 0), []),
  (59, 60, .aload_n 0, 0, 0, 0, .null, []),
  (60, 63, .getfield 22, 2, 0, 132, .null, []),
  (63, 66, .invokevirtual 26, 13, 0, 309, .ref 0, []),
  (66, 69, .invokevirtual 32, 28, 2, 313, .ref 2, []),
  (69, 72, .putfield 36, 2, 3, 135, .int 0, []),
  (72, 73, .aload_n 0, 0, 0, 0, .null, []),
  (73, 74, .iconst 0, 0, 0, 0, .int (nI 0), []),
  (74, 77, .putfield 18, 2, 4, 137, .null, []),
  (77, 78, .return_, 0, 0, 0, .null, [])]
def sm_t28 : List sm_I := [(0, 1, .iload_n 1, 1, 0, 0, .null, []),
  (1, 2, .aload_n 0, 0, 0, 0, .null, []),
  (2, 5, .getfield 22, 2, 0, 132, .null, []),
  (5, 8, .getfield 40, 0, 0, 87, .null, []),
  (8, 11, .if_icmp .lt 5, 13, 0, 0, .null, []),
  (11, 12, .iconst 1, 0, 0, 0, .int (nI 1), []),
  (12, 13, .ireturn, 0, 0, 0, .null, []),
  (13, 14, .iconst 0, 0, 0, 0, .int (nI 0), []),
  (14, 15, .istore_n 3, 3, 0, 0, .null, []),
  (15, 16, .iconst 0, 0, 0, 0, .int (nI 0), []),
  (16, 18, .istore 4, 4, 0, 0, .null, []),
  (18, 20, .iload 4, 4, 0, 0, .null, []),
  (20, 21, .iconst 4, 0, 0, 0, .int (nI 4), []),
  (21, 24, .if_icmp .ge 77, 98, 0, 0, .null, []),
  (24, 25, .aload_n 0, 0, 0, 0, .null, []),
  (25, 28, .getfield 22, 2, 0, 132, .null, []),
  (28, 29, .iload_n 1, 1, 0, 0, .null, []),
  (29, 31, .iload 4, 4, 0, 0, .null, []),
  (31, 34, .invokevirtual 43, 10, 2, 317, .ref 0, []),
  (34, 37, .ifCond .ne 6, 40, 0, 0, .null, []),
  (37, 40, .goto 55, 92, 0, 0, .null, []),
  (40, 41, .aload_n 0, 0, 0, 0, .null, []),
  (41, 44, .getfield 22, 2, 0, 132, .null, []),
  (44, 45, .iload_n 2, 2, 0, 0, .null, []),
  (45, 47, .iload 4, 4, 0, 0, .null, []),
  (47, 50, .invokevirtual 47, 14, 2, 321, .ref 0, []),
  (50, 52, .istore 5, 5, 0, 0, .null, []),
  (52, 53, .aload_n 0, 0, 0, 0, .null, []),
  (53, 56, .getfield 22, 2, 0, 132, .null, []),
  (56, 57, .iload_n 1, 1, 0, 0, .null, []),
  (57, 59, .iload 5, 5, 0, 0, .null, []),
  (59, 62, .invokevirtual 50, 15, 2, 326, .ref 0, []),
  (62, 65, .ifCond .eq 30, 92, 0, 0, .null, []),
  (65, 66, .aload_n 0, 0, 0, 0, .null, []),
  (66, 67, .iload_n 1, 1, 0, 0, .null, []),
  (67, 68, .iconst 1, 0, 0, 0, .int (nI 1), []),
  (68, 69, .iadd, 0, 0, 0, .null, []),
  (69, 71, .iload 5, 5, 0, 0, .null, []),
  (71, 74, .invokevirtual 32, 28, 2, 313, .ref 2, []),
  (74, 76, .istore 6, 6, 0, 0, .null, []),
  (76, 77, .aload_n 0, 0, 0, 0, .null, []),
  (77, 78, .iload_n 1, 1, 0, 0, .null, []),
  (78, 80, .iload 4, 4, 0, 0, .null, []),
  (80, 82, .iload 5, 5, 0, 0, .null, []),
  (82, 84, .iload 6, 6, 0, 0, .null, []),
  (84, 87, .invokevirtual 53, 29, 4, 330, .ref 2, []),
  (87, 88, .iload_n 3, 3, 0, 0, .null, []),
  (88, 90, .iload 6, 6, 0, 0, .null, []),
  (90, 91, .iadd, 0, 0, 0, .null, []),
  (91, 92, .istore_n 3, 3, 0, 0, .null, []),
  (92, 95, .iinc 4 1, 4, 0, 0, .int (nI 1), []),
  (95, 98, .goto (-77), 18, 0, 0, .null, []),
  (98, 99, .iload_n 3, 3, 0, 0, .null, []),
  (99, 100, .ireturn, 0, 0, 0, .null, [])]
def sm_t29 : List sm_I := [(0, 1, .aload_n 0, 0, 0, 0, .null, []),
  (1, 4, .getfield 15, 2, 2, 134, .null, []),
  (4, 5, .iload_n 1, 1, 0, 0, .null, []),
  (5, 6, .iconst 4, 0, 0, 0, .int (nI 4), []),
  (6, 7, .imul, 0, 0, 0, .null, []),
  (7, 8, .iload_n 2, 2, 0, 0, .null, []),
  (8, 9, .iadd, 0, 0, 0, .null, []),
  (9, 10, .dup2, 0, 0, 0, .null, []),
  (10, 11, .iaload, 0, 0, 0, .null, []),
  (11, 13, .iload 4, 4, 0, 0, .null, []),
  (13, 14, .iadd, 0, 0, 0, .null, []),
  (14, 15, .iastore, 0, 0, 0, .null, []),
  (15, 16, .iconst 0, 0, 0, 0, .int (nI 0), []),
  (16, 18, .istore 5, 5, 0, 0, .null, []),
  (18, 20, .iload 5, 5, 0, 0, .null, []),
  (20, 21, .aload_n 0, 0, 0, 0, .null, []),
  (21, 24, .getfield 22, 2, 0, 132, .null, []),
  (24, 27, .getfield 57, 0, 2, 94, .null, []),
  (27, 30, .if_icmp .ge 37, 64, 0, 0, .null, []),
  (30, 31, .aload_n 0, 0, 0, 0, .null, []),
  (31, 34, .getfield 9, 2, 1, 133, .null, []),
  (34, 36, .iload 5, 5, 0, 0, .null, []),
  (36, 38, .bipush 6, 0, 0, 0, .int (nI 6), []),
  (38, 39, .imul, 0, 0, 0, .null, []),
  (39, 40, .iload_n 1, 1, 0, 0, .null, []),
  (40, 41, .iadd, 0, 0, 0, .null, []),
  (41, 42, .iconst 4, 0, 0, 0, .int (nI 4), []),
  (42, 43, .imul, 0, 0, 0, .null, []),
  (43, 44, .iload_n 3, 3, 0, 0, .null, []),
  (44, 45, .iconst 2, 0, 0, 0, .int (nI 2), []),
  (45, 47, .iload 5, 5, 0, 0, .null, []),
  (47, 48, .imul, 0, 0, 0, .null, []),
  (48, 49, .ishr, 0, 0, 0, .null, []),
  (49, 50, .iconst 3, 0, 0, 0, .int (nI 3), []),
  (50, 51, .iand, 0, 0, 0, .null, []),
  (51, 52, .iadd, 0, 0, 0, .null, []),
  (52, 53, .dup2, 0, 0, 0, .null, []),
  (53, 54, .iaload, 0, 0, 0, .null, []),
  (54, 56, .iload 4, 4, 0, 0, .null, []),
  (56, 57, .iadd, 0, 0, 0, .null, []),
  (57, 58, .iastore, 0, 0, 0, .null, []),
  (58, 61, .iinc 5 1, 5, 0, 0, .int (nI 1), []),
  (61, 64, .goto (-43), 18, 0, 0, .null, []),
  (64, 65, .return_, 0, 0, 0, .null, [])]
def sm_t30 : List sm_I := [(0, 1, .aload_n 0, 0, 0, 0, .null, []),
  (1, 4, .getfield 9, 2, 1, 133, .null, []),
  (4, 5, .iload_n 1, 1, 0, 0, .null, []),
  (5, 7, .bipush 6, 0, 0, 0, .int (nI 6), []),
  (7, 8, .imul, 0, 0, 0, .null, []),
  (8, 9, .iload_n 2, 2, 0, 0, .null, []),
  (9, 10, .iadd, 0, 0, 0, .null, []),
  (10, 11, .iconst 4, 0, 0, 0, .int (nI 4), []),
  (11, 12, .imul, 0, 0, 0, .null, []),
  (12, 15, .invokestatic 60, 32, 2, 342, .null, []),
  (15, 16, .ireturn, 0, 0, 0, .null, [])]
def sm_t31 : List sm_I := [(0, 1, .aload_n 0, 0, 0, 0, .null, []),
  (1, 4, .getfield 15, 2, 2, 134, .null, []),
  (4, 5, .iload_n 1, 1, 0, 0, .null, []),
  (5, 6, .iconst 4, 0, 0, 0, .int (nI 4), []),
  (6, 7, .imul, 0, 0, 0, .null, []),
  (7, 10, .invokestatic 60, 32, 2, 342, .null, []),
  (10, 11, .ireturn, 0, 0, 0, .null, [])]
def sm_t32 : List sm_I := [(0, 1, .iconst 0, 0, 0, 0, .int (nI 0), []),
  (1, 2, .istore_n 2, 2, 0, 0, .null, []),
  (2, 3, .iconst 0, 0, 0, 0, .int (nI 0), []),
  (3, 4, .istore_n 3, 3, 0, 0, .null, []),
  (4, 5, .iload_n 3, 3, 0, 0, .null, []),
  (5, 6, .iconst 4, 0, 0, 0, .int (nI 4), []),
  (6, 9, .if_icmp .ge 23, 29, 0, 0, .null, []),
  (9, 10, .aload_n 0, 0, 0, 0, .null, []),
  (10, 11, .iload_n 1, 1, 0, 0, .null, []),
  (11, 12, .iload_n 3, 3, 0, 0, .null, []),
  (12, 13, .iadd, 0, 0, 0, .null, []),
  (13, 14, .iaload, 0, 0, 0, .null, []),
  (14, 17, .ifCond .le 9, 23, 0, 0, .null, []),
  (17, 18, .iload_n 2, 2, 0, 0, .null, []),
  (18, 19, .iconst 1, 0, 0, 0, .int (nI 1), []),
  (19, 20, .iload_n 3, 3, 0, 0, .null, []),
  (20, 21, .ishl, 0, 0, 0, .null, []),
  (21, 22, .ior, 0, 0, 0, .null, []),
  (22, 23, .istore_n 2, 2, 0, 0, .null, []),
  (23, 26, .iinc 3 1, 3, 0, 0, .int (nI 1), []),
  (26, 29, .goto (-22), 4, 0, 0, .null, []),
  (29, 30, .iload_n 2, 2, 0, 0, .null, []),
  (30, 31, .ireturn, 0, 0, 0, .null, [])]
def sm_t33 : List sm_I := [(0, 1, .iload_n 1, 1, 0, 0, .null, []),
  (1, 3, .bipush 6, 0, 0, 0, .int (nI 6), []),
  (3, 4, .imul, 0, 0, 0, .null, []),
  (4, 5, .iload_n 2, 2, 0, 0, .null, []),
  (5, 6, .iadd, 0, 0, 0, .null, []),
  (6, 7, .iconst 4, 0, 0, 0, .int (nI 4), []),
  (7, 8, .imul, 0, 0, 0, .null, []),
  (8, 9, .istore_n 3, 3, 0, 0, .null, []),
  (9, 10, .iconst 0, 0, 0, 0, .int (nI 0), []),
  (10, 12, .istore 4, 4, 0, 0, .null, []),
  (12, 13, .iconst 0, 0, 0, 0, .int (nI 0), []),
  (13, 15, .istore 5, 5, 0, 0, .null, []),
  (15, 17, .iload 5, 5, 0, 0, .null, []),
  (17, 18, .iconst 4, 0, 0, 0, .int (nI 4), []),
  (18, 21, .if_icmp .ge 25, 43, 0, 0, .null, []),
  (21, 23, .iload 4, 4, 0, 0, .null, []),
  (23, 24, .aload_n 0, 0, 0, 0, .null, []),
  (24, 27, .getfield 9, 2, 1, 133, .null, []),
  (27, 28, .iload_n 3, 3, 0, 0, .null, []),
  (28, 30, .iload 5, 5, 0, 0, .null, []),
  (30, 31, .iadd, 0, 0, 0, .null, []),
  (31, 32, .iaload, 0, 0, 0, .null, []),
  (32, 35, .invokestatic 64, 142, 2, 370, .null, []),
  (35, 37, .istore 4, 4, 0, 0, .null, []),
  (37, 40, .iinc 5 1, 5, 0, 0, .int (nI 1), []),
  (40, 43, .goto (-25), 15, 0, 0, .null, []),
  (43, 45, .iload 4, 4, 0, 0, .null, []),
  (45, 46, .ireturn, 0, 0, 0, .null, [])]
def sm_t34 : List sm_I := [(0, 1, .iconst 0, 0, 0, 0, .int (nI 0), []),
  (1, 2, .istore_n 1, 1, 0, 0, .null, []),
  (2, 4, .ldc 71, 0, 0, 365, .int (nI 2147483647), []),
  (4, 5, .istore_n 2, 2, 0, 0, .null, []),
  (5, 6, .iconst 0, 0, 0, 0, .int (nI 0), []),
  (6, 7, .istore_n 3, 3, 0, 0, .null, []),
  (7, 8, .iload_n 3, 3, 0, 0, .null, []),
  (8, 9, .aload_n 0, 0, 0, 0, .null, []),
  (9, 12, .getfield 22, 2, 0, 132, .null, []),
  (12, 15, .getfield 57, 0, 2, 94, .null, []),
  (15, 18, .if_icmp .ge 56, 71, 0, 0, .null, []),
  (18, 19, .iconst 0, 0, 0, 0, .int (nI 0), []),
  (19, 21, .istore 4, 4, 0, 0, .null, []),
  (21, 23, .iload 4, 4, 0, 0, .null, []),
  (23, 24, .aload_n 0, 0, 0, 0, .null, []),
  (24, 27, .getfield 22, 2, 0, 132, .null, []),
  (27, 30, .getfield 40, 0, 0, 87, .null, []),
  (30, 33, .if_icmp .ge 35, 65, 0, 0, .null, []),
  (33, 34, .aload_n 0, 0, 0, 0, .null, []),
  (34, 35, .iload_n 3, 3, 0, 0, .null, []),
  (35, 37, .iload 4, 4, 0, 0, .null, []),
  (37, 40, .invokevirtual 72, 33, 2, 366, .ref 2, []),
  (40, 42, .istore 5, 5, 0, 0, .null, []),
  (42, 44, .iload 5, 5, 0, 0, .null, []),
  (44, 45, .iload_n 2, 2, 0, 0, .null, []),
  (45, 48, .if_icmp .ge 14, 59, 0, 0, .null, []),
  (48, 50, .iload 5, 5, 0, 0, .null, []),
  (50, 51, .istore_n 2, 2, 0, 0, .null, []),
  (51, 52, .iload_n 3, 3, 0, 0, .null, []),
  (52, 54, .bipush 6, 0, 0, 0, .int (nI 6), []),
  (54, 55, .imul, 0, 0, 0, .null, []),
  (55, 57, .iload 4, 4, 0, 0, .null, []),
  (57, 58, .iadd, 0, 0, 0, .null, []),
  (58, 59, .istore_n 1, 1, 0, 0, .null, []),
  (59, 62, .iinc 4 1, 4, 0, 0, .int (nI 1), []),
  (62, 65, .goto (-41), 21, 0, 0, .null, []),
  (65, 68, .iinc 3 1, 3, 0, 0, .int (nI 1), []),
  (68, 71, .goto (-61), 7, 0, 0, .null, []),
  (71, 72, .iload_n 1, 1, 0, 0, .null, []),
  (72, 73, .ireturn, 0, 0, 0, .null, [])]
def sm_t35 : List sm_I := [(0, 1, .aload_n 0, 0, 0, 0, .null, []),
  (1, 4, .invokespecial 3, 0, 0, 0, .null, []),
  (4, 5, .aload_n 0, 0, 0, 0, .null, []),
  (5, 7, .bipush 7, 0, 0, 0, .int (nI 7), []),
  (7, 9, .bipush 64, 0, 0, 0, .int (nI 64), []),
  (9, 13, .multianewarray 11 2, 0, 0, 0, .null, []),
  (13, 16, .putfield 13, 3, 1, 159, .ref 0, []),
  (16, 17, .aload_n 0, 0, 0, 0, .null, []),
  (17, 19, .bipush 7, 0, 0, 0, .int (nI 7), []),
  (19, 21, .newarray .int, 0, 0, 0, .null, []),
  (21, 24, .putfield 16, 3, 2, 160, .ref 0, []),
  (24, 25, .aload_n 0, 0, 0, 0, .null, []),
  (25, 26, .aload_n 1, 1, 0, 0, .null, []),
  (26, 29, .putfield 20, 3, 0, 158, .ref 0, []),
  (29, 30, .return_, 0, 0, 0, .null, [])]
def sm_t36 : List sm_I := [(0, 1, .aload_n 0, 0, 0, 0, .null, []),
  (1, 2, .iload_n 2, 2, 0, 0, .null, []),
  (2, 5, .putfield 24, 3, 3, 161, .int 0, []),
  (5, 6, .aload_n 0, 0, 0, 0, .null, []),
  (6, 7, .iconst 0, 0, 0, 0, .int (nI 0), []),
  (7, 10, .putfield 28, 3, 4, 162, .int 0, []),
  (10, 11, .iconst 0, 0, 0, 0, .int (nI 0), []),
  (11, 12, .istore_n 3, 3, 0, 0, .null, []),
  (12, 13, .iload_n 3, 3, 0, 0, .null, []),
  (13, 14, .aload_n 0, 0, 0, 0, .null, []),
  (14, 17, .getfield 20, 3, 0, 158, .null, []),
  (17, 20, .getfield 31, 0, 2, 92, .null, []),
  (20, 23, .if_icmp .ge 32, 52, 0, 0, .null, []),
  (23, 24, .iload_n 1, 1, 0, 0, .null, []),
  (24, 25, .iload_n 3, 3, 0, 0, .null, []),
  (25, 26, .ishr, 0, 0, 0, .null, []),
  (26, 27, .iconst 1, 0, 0, 0, .int (nI 1), []),
  (27, 28, .iand, 0, 0, 0, .null, []),
  (28, 29, .iconst 1, 0, 0, 0, .int (nI 1), []),
  (29, 32, .if_icmp .ne 17, 46, 0, 0, .null, []),
  (32, 33, .aload_n 0, 0, 0, 0, .null, []),
  (33, 34, .dup, 0, 0, 0, .null, []),
  (34, 37, .getfield 28, 3, 4, 162, .null, []),
  (37, 38, .iconst 3, 0, 0, 0, .int (nI 3), []),
  (38, 39, .iconst 2, 0, 0, 0, .int (nI 2), []),
  (39, 40, .iload_n 3, 3, 0, 0, .null, []),
  (40, 41, .imul, 0, 0, 0, .null, []),
  (41, 42, .ishl, 0, 0, 0, .null, []),
  (42, 43, .ior, 0, 0, 0, .null, []),
  (43, 46, .putfield 28, 3, 4, 162, .int 0, []),
  (46, 49, .iinc 3 1, 3, 0, 0, .int (nI 1), []),
  (49, 52, .goto (-37), 12, 0, 0, .null, []),
  (52, 53, .aload_n 0, 0, 0, 0, .null, []),
  (53, 56, .getfield 13, 3, 1, 159, .null, []),
  (56, 57, .iconst 0, 0, 0, 0, .int (nI 0), []),
  (57, 58, .aaload, 0, 0, 0, .null, []),
  (58, 59, .iconst 0, 0, 0, 0, .int (nI 0), []),
  (59, 60, .aload_n 0, 0, 0, 0, .null, []),
  (60, 63, .getfield 20, 3, 0, 158, .null, []),
  (63, 66, .invokevirtual 36, 13, 0, 395, .ref 0, []),
  (66, 67, .iastore, 0, 0, 0, .null, []),
  (67, 68, .aload_n 0, 0, 0, 0, .null, []),
  (68, 71, .getfield 16, 3, 2, 160, .null, []),
  (71, 72, .iconst 0, 0, 0, 0, .int (nI 0), []),
  (72, 73, .iconst 1, 0, 0, 0, .int (nI 1), []),
  (73, 74, .iastore, 0, 0, 0, .null, []),
  (74, 75, .aload_n 0, 0, 0, 0, .null, []),
  (75, 76, .iconst 0, 0, 0, 0, .int (nI 0), []),
  (76, 79, .invokevirtual 40, 37, 1, 396, .ref 3, []),
  (79, 80, .ireturn, 0, 1, 0, .null, [])]
def sm_t37 : List sm_I := [(0, 1, .aload_n 0, 0, 0, 0, .null, []),
  (1, 4, .getfield 16, 3, 2, 160, .null, []),
  (4, 5, .iload_n 1, 1, 0, 0, .null, []),
  (5, 6, .iaload, 0, 0, 0, .null, []),
  (6, 9, .ifCond .eq 19, 25, 0, 0, .null, []),
  (9, 10, .iload_n 1, 1, 0, 0, .null, []),
  (10, 11, .aload_n 0, 0, 0, 0, .null, []),
  (11, 14, .getfield 24, 3, 3, 161, .null, []),
  (14, 17, .if_icmp .le 13, 27, 0, 0, .null, []),
  (17, 18, .aload_n 0, 0, 0, 0, .null, []),
  (18, 19, .iload_n 1, 1, 0, 0, .null, []),
  (19, 22, .invokevirtual 44, 38, 1, 400, .ref 3, []),
  (22, 25, .ifCond .eq 5, 27, 0, 0, .null, []),
  (25, 26, .iconst 1, 0, 0, 0, .int (nI 1), []),
  (26, 27, .ireturn, 0, 1, 0, .null, []),
  (27, 28, .iload_n 1, 1, 0, 0, .null, []),
  (28, 29, .aload_n 0, 0, 0, 0, .null, []),
  (29, 32, .getfield 20, 3, 0, 158, .null, []),
  (32, 35, .getfield 47, 0, 0, 88, .null, []),
  (35, 38, .if_icmp .lt 5, 40, 0, 0, .null, []),
  (38, 39, .iconst 0, 0, 0, 0, .int (nI 0), []),
  (39, 40, .ireturn, 0, 1, 0, .null, []),
  (40, 41, .iconst 0, 0, 0, 0, .int (nI 0), []),
  (41, 42, .istore_n 2, 2, 0, 0, .null, []),
  (42, 43, .iconst 0, 0, 0, 0, .int (nI 0), []),
  (43, 44, .istore_n 3, 3, 0, 0, .null, []),
  (44, 45, .iload_n 3, 3, 0, 0, .null, []),
  (45, 46, .iconst 4, 0, 0, 0, .int (nI 4), []),
  (46, 49, .if_icmp .ge 38, 84, 0, 0, .null, []),
  (49, 50, .iload_n 2, 2, 0, 0, .null, []),
  (50, 51, .iload_n 3, 3, 0, 0, .null, []),
  (51, 52, .ishr, 0, 0, 0, .null, []),
  (52, 53, .iconst 1, 0, 0, 0, .int (nI 1), []),
  (53, 54, .iand, 0, 0, 0, .null, []),
  (54, 57, .ifCond .ne 24, 78, 0, 0, .null, []),
  (57, 58, .iload_n 2, 2, 0, 0, .null, []),
  (58, 59, .aload_n 0, 0, 0, 0, .null, []),
  (59, 60, .iload_n 1, 1, 0, 0, .null, []),
  (60, 61, .iload_n 3, 3, 0, 0, .null, []),
  (61, 64, .invokevirtual 50, 39, 2, 404, .ref 3, []),
  (64, 65, .ior, 0, 0, 0, .null, []),
  (65, 66, .istore_n 2, 2, 0, 0, .null, []),
  (66, 67, .aload_n 0, 0, 0, 0, .null, []),
  (67, 68, .iload_n 1, 1, 0, 0, .null, []),
  (68, 69, .iconst 1, 0, 0, 0, .int (nI 1), []),
  (69, 70, .iadd, 0, 0, 0, .null, []),
  (70, 73, .invokevirtual 40, 37, 1, 396, .ref 3, []),
  (73, 76, .ifCond .ne 5, 78, 0, 0, .null, []),
  (76, 77, .iconst 0, 0, 0, 0, .int (nI 0), []),
  (77, 78, .ireturn, 0, 1, 0, .null, []),
  (78, 81, .iinc 3 1, 3, 0, 0, .int (nI 1), []),
  (81, 84, .goto (-37), 44, 0, 0, .null, []),
  (84, 85, .iconst 1, 0, 0, 0, .int (nI 1), []),
  (85, 86, .ireturn, 0, 1, 0, .null, [])]
def sm_t38 : List sm_I := [(0, 1, .aload_n 0, 0, 0, 0, .null, []),
  (1, 4, .getfield 13, 3, 1, 159, .null, []),
  (4, 5, .iload_n 1, 1, 0, 0, .null, []),
  (5, 6, .aaload, 0, 0, 0, .null, []),
  (6, 7, .astore_n 2, 2, 0, 0, .null, []),
  (7, 8, .iconst 1, 0, 0, 0, .int (nI 1), []),
  (8, 9, .istore_n 3, 3, 0, 0, .null, []),
  (9, 10, .iload_n 3, 3, 0, 0, .null, []),
  (10, 11, .aload_n 0, 0, 0, 0, .null, []),
  (11, 14, .getfield 16, 3, 2, 160, .null, []),
  (14, 15, .iload_n 1, 1, 0, 0, .null, []),
  (15, 16, .iaload, 0, 0, 0, .null, []),
  (16, 19, .if_icmp .ge 26, 42, 0, 0, .null, []),
  (19, 20, .aload_n 2, 2, 0, 0, .null, []),
  (20, 21, .iload_n 3, 3, 0, 0, .null, []),
  (21, 22, .iaload, 0, 0, 0, .null, []),
  (22, 24, .bipush 8, 0, 0, 0, .int (nI 8), []),
  (24, 25, .ishr, 0, 0, 0, .null, []),
  (25, 26, .aload_n 2, 2, 0, 0, .null, []),
  (26, 27, .iconst 0, 0, 0, 0, .int (nI 0), []),
  (27, 28, .iaload, 0, 0, 0, .null, []),
  (28, 30, .bipush 8, 0, 0, 0, .int (nI 8), []),
  (30, 31, .ishr, 0, 0, 0, .null, []),
  (31, 34, .if_icmp .eq 5, 36, 0, 0, .null, []),
  (34, 35, .iconst 0, 0, 0, 0, .int (nI 0), []),
  (35, 36, .ireturn, 0, 1, 0, .null, []),
  (36, 39, .iinc 3 1, 3, 0, 0, .int (nI 1), []),
  (39, 42, .goto (-30), 9, 0, 0, .null, []),
  (42, 43, .iconst 1, 0, 0, 0, .int (nI 1), []),
  (43, 44, .ireturn, 0, 1, 0, .null, [])]
def sm_t39 : List sm_I := [(0, 1, .aload_n 0, 0, 0, 0, .null, []),
  (1, 4, .getfield 13, 3, 1, 159, .null, []),
  (4, 5, .iload_n 1, 1, 0, 0, .null, []),
  (5, 6, .aaload, 0, 0, 0, .null, []),
  (6, 7, .iconst 0, 0, 0, 0, .int (nI 0), []),
  (7, 8, .iaload, 0, 0, 0, .null, []),
  (8, 11, .sipush 255, 0, 0, 0, .int (nI 255), []),
  (11, 12, .iand, 0, 0, 0, .null, []),
  (12, 13, .istore_n 3, 3, 0, 0, .null, []),
  (13, 14, .aload_n 0, 0, 0, 0, .null, []),
  (14, 17, .getfield 20, 3, 0, 158, .null, []),
  (17, 18, .iload_n 3, 3, 0, 0, .null, []),
  (18, 19, .iload_n 2, 2, 0, 0, .null, []),
  (19, 22, .invokevirtual 54, 14, 2, 408, .ref 0, []),
  (22, 23, .aload_n 0, 0, 0, 0, .null, []),
  (23, 26, .getfield 28, 3, 4, 162, .null, []),
  (26, 27, .iand, 0, 0, 0, .null, []),
  (27, 29, .istore 4, 4, 0, 0, .null, []),
  (29, 30, .iconst 0, 0, 0, 0, .int (nI 0), []),
  (30, 32, .istore 5, 5, 0, 0, .null, []),
  (32, 33, .aload_n 0, 0, 0, 0, .null, []),
  (33, 36, .getfield 16, 3, 2, 160, .null, []),
  (36, 37, .iload_n 1, 1, 0, 0, .null, []),
  (37, 38, .iconst 1, 0, 0, 0, .int (nI 1), []),
  (38, 39, .iadd, 0, 0, 0, .null, []),
  (39, 40, .iconst 0, 0, 0, 0, .int (nI 0), []),
  (40, 41, .iastore, 0, 0, 0, .null, []),
  (41, 42, .iconst 0, 0, 0, 0, .int (nI 0), []),
  (42, 44, .istore 6, 6, 0, 0, .null, []),
  (44, 46, .iload 6, 6, 0, 0, .null, []),
  (46, 47, .iconst 4, 0, 0, 0, .int (nI 4), []),
  (47, 50, .if_icmp .ge 58, 105, 0, 0, .null, []),
  (50, 51, .aload_n 0, 0, 0, 0, .null, []),
  (51, 54, .getfield 20, 3, 0, 158, .null, []),
  (54, 55, .iload_n 3, 3, 0, 0, .null, []),
  (55, 57, .iload 6, 6, 0, 0, .null, []),
  (57, 60, .invokevirtual 54, 14, 2, 408, .ref 0, []),
  (60, 61, .aload_n 0, 0, 0, 0, .null, []),
  (61, 64, .getfield 28, 3, 4, 162, .null, []),
  (64, 65, .iand, 0, 0, 0, .null, []),
  (65, 67, .iload 4, 4, 0, 0, .null, []),
  (67, 70, .if_icmp .ne 32, 99, 0, 0, .null, []),
  (70, 72, .iload 5, 5, 0, 0, .null, []),
  (72, 73, .iconst 1, 0, 0, 0, .int (nI 1), []),
  (73, 75, .iload 6, 6, 0, 0, .null, []),
  (75, 76, .ishl, 0, 0, 0, .null, []),
  (76, 77, .ior, 0, 0, 0, .null, []),
  (77, 79, .istore 5, 5, 0, 0, .null, []),
  (79, 80, .aload_n 0, 0, 0, 0, .null, []),
  (80, 83, .getfield 20, 3, 0, 158, .null, []),
  (83, 84, .iload_n 1, 1, 0, 0, .null, []),
  (84, 86, .iload 6, 6, 0, 0, .null, []),
  (86, 89, .invokevirtual 57, 10, 2, 409, .ref 0, []),
  (89, 92, .ifCond .eq 10, 99, 0, 0, .null, []),
  (92, 93, .aload_n 0, 0, 0, 0, .null, []),
  (93, 94, .iload_n 1, 1, 0, 0, .null, []),
  (94, 96, .iload 6, 6, 0, 0, .null, []),
  (96, 99, .invokevirtual 61, 40, 2, 410, .ref 3, []),
  (99, 102, .iinc 6 1, 6, 0, 0, .int (nI 1), []),
  (102, 105, .goto (-58), 44, 0, 0, .null, []),
  (105, 107, .iload 5, 5, 0, 0, .null, []),
  (107, 108, .ireturn, 0, 0, 0, .null, [])]
def sm_t40 : List sm_I := [(0, 1, .aload_n 0, 0, 0, 0, .null, []),
  (1, 4, .getfield 13, 3, 1, 159, .null, []),
  (4, 5, .iload_n 1, 1, 0, 0, .null, []),
  (5, 6, .aaload, 0, 0, 0, .null, []),
  (6, 7, .astore_n 3, 3, 0, 0, .null, []),
  (7, 8, .aload_n 0, 0, 0, 0, .null, []),
  (8, 11, .getfield 13, 3, 1, 159, .null, []),
  (11, 12, .iload_n 1, 1, 0, 0, .null, []),
  (12, 13, .iconst 1, 0, 0, 0, .int (nI 1), []),
  (13, 14, .iadd, 0, 0, 0, .null, []),
  (14, 15, .aaload, 0, 0, 0, .null, []),
  (15, 17, .astore 4, 4, 0, 0, .null, []),
  (17, 18, .iconst 0, 0, 0, 0, .int (nI 0), []),
  (18, 20, .istore 5, 5, 0, 0, .null, []),
  (20, 22, .iload 5, 5, 0, 0, .null, []),
  (22, 23, .aload_n 0, 0, 0, 0, .null, []),
  (23, 26, .getfield 16, 3, 2, 160, .null, []),
  (26, 27, .iload_n 1, 1, 0, 0, .null, []),
  (27, 28, .iaload, 0, 0, 0, .null, []),
  (28, 31, .if_icmp .ge 104, 132, 0, 0, .null, []),
  (31, 32, .aload_n 0, 0, 0, 0, .null, []),
  (32, 35, .getfield 20, 3, 0, 158, .null, []),
  (35, 36, .aload_n 3, 3, 0, 0, .null, []),
  (36, 38, .iload 5, 5, 0, 0, .null, []),
  (38, 39, .iaload, 0, 0, 0, .null, []),
  (39, 42, .sipush 255, 0, 0, 0, .int (nI 255), []),
  (42, 43, .iand, 0, 0, 0, .null, []),
  (43, 44, .iload_n 2, 2, 0, 0, .null, []),
  (44, 47, .invokevirtual 54, 14, 2, 408, .ref 0, []),
  (47, 49, .istore 6, 6, 0, 0, .null, []),
  (49, 50, .iload_n 1, 1, 0, 0, .null, []),
  (50, 51, .aload_n 0, 0, 0, 0, .null, []),
  (51, 54, .getfield 24, 3, 3, 161, .null, []),
  (54, 57, .if_icmp .ne 7, 61, 0, 0, .null, []),
  (57, 58, .iload_n 2, 2, 0, 0, .null, []),
  (58, 61, .goto 10, 68, 0, 0, .null, []),
  (61, 62, .aload_n 3, 3, 0, 0, .null, []),
  (62, 64, .iload 5, 5, 0, 0, .null, []),
  (64, 65, .iaload, 0, 0, 0, .null, []),
  (65, 67, .bipush 8, 0, 0, 0, .int (nI 8), []),
  (67, 68, .ishr, 0, 0, 0, .null, []),
  (68, 70, .istore 7, 7, 0, 0, .null, []),
  (70, 71, .aload_n 0, 0, 0, 0, .null, []),
  (71, 74, .getfield 16, 3, 2, 160, .null, []),
  (74, 75, .iload_n 1, 1, 0, 0, .null, []),
  (75, 76, .iconst 1, 0, 0, 0, .int (nI 1), []),
  (76, 77, .iadd, 0, 0, 0, .null, []),
  (77, 78, .iaload, 0, 0, 0, .null, []),
  (78, 80, .istore 8, 8, 0, 0, .null, []),
  (80, 81, .aload_n 0, 0, 0, 0, .null, []),
  (81, 84, .getfield 20, 3, 0, 158, .null, []),
  (84, 85, .iload_n 1, 1, 0, 0, .null, []),
  (85, 87, .iload 6, 6, 0, 0, .null, []),
  (87, 90, .invokevirtual 65, 15, 2, 414, .ref 0, []),
  (90, 93, .ifCond .eq 36, 126, 0, 0, .null, []),
  (93, 95, .iload 8, 8, 0, 0, .null, []),
  (95, 97, .aload 4, 4, 0, 0, .null, []),
  (97, 98, .arraylength, 0, 0, 0, .null, []),
  (98, 101, .if_icmp .ge 28, 126, 0, 0, .null, []),
  (101, 103, .aload 4, 4, 0, 0, .null, []),
  (103, 105, .iload 8, 8, 0, 0, .null, []),
  (105, 107, .iload 7, 7, 0, 0, .null, []),
  (107, 109, .bipush 8, 0, 0, 0, .int (nI 8), []),
  (109, 110, .ishl, 0, 0, 0, .null, []),
  (110, 112, .iload 6, 6, 0, 0, .null, []),
  (112, 113, .ior, 0, 0, 0, .null, []),
  (113, 114, .iastore, 0, 0, 0, .null, []),
  (114, 115, .aload_n 0, 0, 0, 0, .null, []),
  (115, 118, .getfield 16, 3, 2, 160, .null, []),
  (118, 119, .iload_n 1, 1, 0, 0, .null, []),
  (119, 120, .iconst 1, 0, 0, 0, .int (nI 1), []),
  (120, 121, .iadd, 0, 0, 0, .null, []),
  (121, 123, .iload 8, 8, 0, 0, .null, []),
  (123, 124, .iconst 1, 0, 0, 0, .int (nI 1), []),
  (124, 125, .iadd, 0, 0, 0, .null, []),
  (125, 126, .iastore, 0, 0, 0, .null, []),
  (126, 129, .iinc 5 1, 5, 0, 0, .int (nI 1), []),
  (129, 132, .goto (-109), 20, 0, 0, .null, []),
  (132, 133, .return_, 0, 0, 0, .null, [])]
def sm_t41 : List sm_I := [(0, 1, .aload_n 0, 0, 0, 0, .null, []),
  (1, 4, .invokespecial 1, 0, 0, 0, .null, []),
  (4, 5, .aload_n 0, 0, 0, 0, .null, []),
  (5, 8, .new 7, 0, 0, 0, .null, []),
  (8, 9, .dup, 0, 0, 0, .null, []),
  (9, 12, .invokespecial 9, 21, 0, 0, .null, []),
  (12, 15, .putfield 10, 4, 0, 174, .ref 0, []),
  (15, 16, .aload_n 0, 0, 0, 0, .null, []),
  (16, 19, .new 16, 0, 0, 0, .null, []),
  (19, 20, .dup, 0, 0, 0, .null, []),
  (20, 23, .invokespecial 18, 0, 0, 0, .null, []),
  (23, 26, .putfield 19, 4, 1, 175, .ref 0, []),
  (26, 27, .aload_n 0, 0, 0, 0, .null, []),
  (27, 30, .new 16, 0, 0, 0, .null, []),
  (30, 31, .dup, 0, 0, 0, .null, []),
  (31, 34, .invokespecial 18, 0, 0, 0, .null, []),
  (34, 37, .putfield 23, 4, 2, 176, .ref 0, []),
  (37, 38, .aload_n 0, 0, 0, 0, .null, []),
  (38, 41, .new 26, 0, 0, 0, .null, []),
  (41, 42, .dup, 0, 0, 0, .null, []),
  (42, 43, .aload_n 0, 0, 0, 0, .null, []),
  (43, 46, .getfield 19, 4, 1, 175, .null, []),
  (46, 49, .invokespecial 28, 26, 1, 0, .null, []),
  (49, 52, .putfield 31, 4, 3, 177, .ref 0, []),
  (52, 53, .aload_n 0, 0, 0, 0, .null, []),
  (53, 56, .new 35, 0, 0, 0, .null, []),
  (56, 57, .dup, 0, 0, 0, .null, []),
  (57, 58, .aload_n 0, 0, 0, 0, .null, []),
  (58, 61, .getfield 19, 4, 1, 175, .null, []),
  (61, 64, .invokespecial 37, 35, 1, 0, .null, []),
  (64, 67, .putfield 38, 4, 4, 178, .ref 0, []),
  (67, 68, .return_, 0, 0, 0, .null, [])]
def sm_t42 : List sm_I := [(0, 1, .iload_n 1, 1, 0, 0, .null, []),
  (1, 3, .bipush 32, 0, 0, 0, .int (nI 32), []),
  (3, 6, .if_icmp .lt 9, 12, 0, 0, .null, []),
  (6, 7, .iload_n 1, 1, 0, 0, .null, []),
  (7, 9, .bipush 126, 0, 0, 0, .int (nI 126), []),
  (9, 12, .if_icmp .le 6, 15, 0, 0, .null, []),
  (12, 14, .bipush (-102), 0, 0, 0, .int (-102), []),
  (14, 15, .ireturn, 0, 0, 0, .null, []),
  (15, 16, .aload_n 0, 0, 0, 0, .null, []),
  (16, 19, .getfield 10, 4, 0, 174, .null, []),
  (19, 20, .iload_n 1, 1, 0, 0, .null, []),
  (20, 23, .invokevirtual 42, 22, 1, 203, .ref 1, []),
  (23, 26, .ifCond .eq 13, 36, 0, 0, .null, []),
  (26, 27, .aload_n 0, 0, 0, 0, .null, []),
  (27, 30, .getfield 10, 4, 0, 174, .null, []),
  (30, 33, .getfield 46, 1, 1, 72, .null, []),
  (33, 36, .goto 5, 38, 0, 0, .null, []),
  (36, 38, .bipush (-104), 0, 0, 0, .int (-104), []),
  (38, 39, .ireturn, 0, 0, 0, .null, [])]
def sm_t43 : List sm_I := [(0, 1, .aload_n 0, 0, 0, 0, .null, []),
  (1, 4, .getfield 10, 4, 0, 174, .null, []),
  (4, 7, .getfield 46, 1, 1, 72, .null, []),
  (7, 8, .istore_n 1, 1, 0, 0, .null, []),
  (8, 9, .aload_n 0, 0, 0, 0, .null, []),
  (9, 12, .getfield 10, 4, 0, 174, .null, []),
  (12, 13, .iconst 0, 0, 0, 0, .int (nI 0), []),
  (13, 16, .putfield 46, 1, 1, 72, .int 0, []),
  (16, 17, .iload_n 1, 1, 0, 0, .null, []),
  (17, 18, .ireturn, 0, 0, 0, .null, [])]
def sm_t44 : List sm_I := [(0, 1, .aload_n 0, 0, 0, 0, .null, []),
  (1, 4, .getfield 10, 4, 0, 174, .null, []),
  (4, 7, .invokevirtual 50, 23, 0, 215, .ref 1, []),
  (7, 8, .ireturn, 0, 0, 0, .null, [])]
def sm_t45 : List sm_I := [(0, 1, .aload_n 0, 0, 0, 0, .null, []),
  (1, 4, .getfield 10, 4, 0, 174, .null, []),
  (4, 7, .getfield 46, 1, 1, 72, .null, []),
  (7, 10, .ifCond .eq 20, 27, 0, 0, .null, []),
  (10, 11, .aload_n 0, 0, 0, 0, .null, []),
  (11, 14, .getfield 10, 4, 0, 174, .null, []),
  (14, 17, .invokevirtual 50, 23, 0, 215, .ref 1, []),
  (17, 18, .aload_n 0, 0, 0, 0, .null, []),
  (18, 21, .getfield 10, 4, 0, 174, .null, []),
  (21, 24, .getfield 46, 1, 1, 72, .null, []),
  (24, 27, .if_icmp .ge 6, 30, 0, 0, .null, []),
  (27, 29, .bipush (-103), 0, 0, 0, .int (-103), []),
  (29, 30, .ireturn, 0, 0, 0, .null, []),
  (30, 31, .aload_n 0, 0, 0, 0, .null, []),
  (31, 34, .getfield 19, 4, 1, 175, .null, []),
  (34, 35, .aload_n 0, 0, 0, 0, .null, []),
  (35, 38, .getfield 10, 4, 0, 174, .null, []),
  (38, 41, .invokevirtual 54, 3, 1, 229, .ref 0, []),
  (41, 42, .aload_n 0, 0, 0, 0, .null, []),
  (42, 45, .getfield 10, 4, 0, 174, .null, []),
  (45, 46, .iconst 0, 0, 0, 0, .int (nI 0), []),
  (46, 49, .putfield 46, 1, 1, 72, .int 0, []),
  (49, 50, .aload_n 0, 0, 0, 0, .null, []),
  (50, 51, .iconst 0, 0, 0, 0, .int (nI 0), []),
  (51, 54, .putfield 58, 4, 5, 179, .null, []),
  (54, 55, .aload_n 0, 0, 0, 0, .null, []),
  (55, 56, .dup, 0, 0, 0, .null, []),
  (56, 59, .getfield 62, 4, 6, 180, .null, []),
  (59, 60, .iconst 1, 0, 0, 0, .int (nI 1), []),
  (60, 61, .iadd, 0, 0, 0, .null, []),
  (61, 64, .putfield 62, 4, 6, 180, .int 0, []),
  (64, 65, .aload_n 0, 0, 0, 0, .null, []),
  (65, 68, .getfield 31, 4, 3, 177, .null, []),
  (68, 69, .iconst 1, 0, 0, 0, .int (nI 1), []),
  (69, 72, .putfield 65, 2, 4, 138, .null, []),
  (72, 73, .aload_n 0, 0, 0, 0, .null, []),
  (73, 76, .getfield 19, 4, 1, 175, .null, []),
  (76, 79, .getfield 68, 0, 0, 89, .null, []),
  (79, 80, .ireturn, 0, 0, 0, .null, [])]
def sm_t46 : List sm_I := [(0, 1, .aload_n 0, 0, 0, 0, .null, []),
  (1, 4, .getfield 19, 4, 1, 175, .null, []),
  (4, 5, .iload_n 1, 1, 0, 0, .null, []),
  (5, 8, .invokevirtual 71, 1, 1, 242, .ref 0, []),
  (8, 11, .ifCond .ne 6, 14, 0, 0, .null, []),
  (11, 13, .bipush (-101), 0, 0, 0, .int (-101), []),
  (13, 14, .ireturn, 0, 0, 0, .null, []),
  (14, 15, .iload_n 2, 2, 0, 0, .null, []),
  (15, 16, .iconst (-1), 0, 0, 0, .int (-1), []),
  (16, 19, .if_icmp .eq 13, 29, 0, 0, .null, []),
  (19, 20, .iload_n 2, 2, 0, 0, .null, []),
  (20, 23, .invokestatic 74, 73, 1, 246, .null, []),
  (23, 26, .ifCond .ne 6, 29, 0, 0, .null, []),
  (26, 28, .bipush (-102), 0, 0, 0, .int (-102), []),
  (28, 29, .ireturn, 0, 0, 0, .null, []),
  (29, 30, .aload_n 0, 0, 0, 0, .null, []),
  (30, 33, .getfield 19, 4, 1, 175, .null, []),
  (33, 36, .getfield 77, 0, 1, 91, .null, []),
  (36, 37, .iload_n 1, 1, 0, 0, .null, []),
  (37, 38, .iaload, 0, 0, 0, .null, []),
  (38, 39, .istore_n 3, 3, 0, 0, .null, []),
  (39, 40, .aload_n 0, 0, 0, 0, .null, []),
  (40, 43, .getfield 19, 4, 1, 175, .null, []),
  (43, 46, .getfield 77, 0, 1, 91, .null, []),
  (46, 47, .iload_n 1, 1, 0, 0, .null, []),
  (47, 48, .iload_n 2, 2, 0, 0, .null, []),
  (48, 49, .iastore, 0, 0, 0, .null, []),
  (49, 50, .aload_n 0, 0, 0, 0, .null, []),
  (50, 53, .getfield 31, 4, 3, 177, .null, []),
  (53, 54, .iconst 1, 0, 0, 0, .int (nI 1), []),
  (54, 57, .putfield 65, 2, 4, 138, .null, []),
  (57, 58, .iload_n 3, 3, 0, 0, .null, []),
  (58, 59, .ireturn, 0, 0, 0, .null, [])]
def sm_t47 : List sm_I := [(0, 1, .iload_n 1, 1, 0, 0, .null, []),
  (1, 4, .invokestatic 81, 75, 1, 253, .null, []),
  (4, 7, .ifCond .eq 17, 21, 0, 0, .null, []),
  (7, 8, .iload_n 2, 2, 0, 0, .null, []),
  (8, 11, .invokestatic 74, 73, 1, 246, .null, []),
  (11, 14, .ifCond .eq 10, 21, 0, 0, .null, []),
  (14, 15, .iload_n 3, 3, 0, 0, .null, []),
  (15, 18, .invokestatic 84, 74, 1, 256, .null, []),
  (18, 21, .ifCond .ne 6, 24, 0, 0, .null, []),
  (21, 23, .bipush (-102), 0, 0, 0, .int (-102), []),
  (23, 24, .ireturn, 0, 0, 0, .null, []),
  (24, 25, .aload_n 0, 0, 0, 0, .null, []),
  (25, 28, .getfield 19, 4, 1, 175, .null, []),
  (28, 31, .getfield 68, 0, 0, 89, .null, []),
  (31, 34, .ifCond .ne 6, 37, 0, 0, .null, []),
  (34, 36, .bipush (-103), 0, 0, 0, .int (-103), []),
  (36, 37, .ireturn, 0, 0, 0, .null, []),
  (37, 38, .aload_n 0, 0, 0, 0, .null, []),
  (38, 41, .getfield 19, 4, 1, 175, .null, []),
  (41, 44, .getfield 87, 0, 2, 95, .null, []),
  (44, 45, .iconst 4, 0, 0, 0, .int (nI 4), []),
  (45, 48, .if_icmp .lt 6, 51, 0, 0, .null, []),
  (48, 50, .bipush (-104), 0, 0, 0, .int (-104), []),
  (50, 51, .ireturn, 0, 0, 0, .null, []),
  (51, 52, .aload_n 0, 0, 0, 0, .null, []),
  (52, 55, .getfield 19, 4, 1, 175, .null, []),
  (55, 56, .iload_n 1, 1, 0, 0, .null, []),
  (56, 57, .iload_n 2, 2, 0, 0, .null, []),
  (57, 58, .iload_n 3, 3, 0, 0, .null, []),
  (58, 61, .invokevirtual 90, 4, 3, 259, .ref 0, []),
  (61, 62, .aload_n 0, 0, 0, 0, .null, []),
  (62, 65, .getfield 31, 4, 3, 177, .null, []),
  (65, 66, .iconst 1, 0, 0, 0, .int (nI 1), []),
  (66, 69, .putfield 65, 2, 4, 138, .null, []),
  (69, 70, .aload_n 0, 0, 0, 0, .null, []),
  (70, 73, .getfield 19, 4, 1, 175, .null, []),
  (73, 76, .getfield 87, 0, 2, 95, .null, []),
  (76, 77, .iconst 1, 0, 0, 0, .int (nI 1), []),
  (77, 78, .isub, 0, 0, 0, .null, []),
  (78, 79, .ireturn, 0, 0, 0, .null, [])]
def sm_t48 : List sm_I := [(0, 1, .aload_n 0, 0, 0, 0, .null, []),
  (1, 4, .getfield 19, 4, 1, 175, .null, []),
  (4, 5, .iload_n 1, 1, 0, 0, .null, []),
  (5, 8, .invokevirtual 94, 2, 1, 267, .ref 0, []),
  (8, 11, .ifCond .ne 6, 14, 0, 0, .null, []),
  (11, 13, .bipush (-101), 0, 0, 0, .int (-101), []),
  (13, 14, .ireturn, 0, 0, 0, .null, []),
  (14, 15, .iload_n 2, 2, 0, 0, .null, []),
  (15, 44, .tableswitch 69 0 3 #[29, 39, 49, 59], 84, 29, 0, .null, [((nI 0), 44), ((nI 1), 54), ((nI 2), 64), ((nI 3), 74)]),
  (44, 45, .aload_n 0, 0, 0, 0, .null, []),
  (45, 48, .getfield 19, 4, 1, 175, .null, []),
  (48, 51, .getfield 97, 0, 3, 97, .null, []),
  (51, 52, .iload_n 1, 1, 0, 0, .null, []),
  (52, 53, .iaload, 0, 0, 0, .null, []),
  (53, 54, .ireturn, 0, 0, 0, .null, []),
  (54, 55, .aload_n 0, 0, 0, 0, .null, []),
  (55, 58, .getfield 19, 4, 1, 175, .null, []),
  (58, 61, .getfield 100, 0, 4, 99, .null, []),
  (61, 62, .iload_n 1, 1, 0, 0, .null, []),
  (62, 63, .iaload, 0, 0, 0, .null, []),
  (63, 64, .ireturn, 0, 0, 0, .null, []),
  (64, 65, .aload_n 0, 0, 0, 0, .null, []),
  (65, 68, .getfield 19, 4, 1, 175, .null, []),
  (68, 71, .getfield 103, 0, 5, 101, .null, []),
  (71, 72, .iload_n 1, 1, 0, 0, .null, []),
  (72, 73, .iaload, 0, 0, 0, .null, []),
  (73, 74, .ireturn, 0, 0, 0, .null, []),
  (74, 75, .aload_n 0, 0, 0, 0, .null, []),
  (75, 78, .getfield 19, 4, 1, 175, .null, []),
  (78, 81, .getfield 106, 0, 7, 105, .null, []),
  (81, 82, .iload_n 1, 1, 0, 0, .null, []),
  (82, 83, .iaload, 0, 0, 0, .null, []),
  (83, 84, .ireturn, 0, 0, 0, .null, []),
  (84, 85, .iload_n 2, 2, 0, 0, .null, []),
  (85, 87, .bipush 10, 0, 0, 0, .int (nI 10), []),
  (87, 88, .isub, 0, 0, 0, .null, []),
  (88, 91, .invokestatic 74, 73, 1, 246, .null, []),
  (91, 94, .ifCond .eq 32, 123, 0, 0, .null, []),
  (94, 95, .aload_n 0, 0, 0, 0, .null, []),
  (95, 98, .getfield 19, 4, 1, 175, .null, []),
  (98, 101, .getfield 97, 0, 3, 97, .null, []),
  (101, 102, .iload_n 1, 1, 0, 0, .null, []),
  (102, 103, .iaload, 0, 0, 0, .null, []),
  (103, 104, .aload_n 0, 0, 0, 0, .null, []),
  (104, 107, .getfield 19, 4, 1, 175, .null, []),
  (107, 110, .getfield 103, 0, 5, 101, .null, []),
  (110, 111, .iload_n 1, 1, 0, 0, .null, []),
  (111, 112, .iaload, 0, 0, 0, .null, []),
  (112, 113, .iconst 0, 0, 0, 0, .int (nI 0), []),
  (113, 114, .iload_n 2, 2, 0, 0, .null, []),
  (114, 116, .bipush 10, 0, 0, 0, .int (nI 10), []),
  (116, 117, .isub, 0, 0, 0, .null, []),
  (117, 120, .invokestatic 109, 11, 4, 271, .null, []),
  (120, 123, .goto 5, 125, 0, 0, .null, []),
  (123, 125, .bipush (-102), 0, 0, 0, .int (-102), []),
  (125, 126, .ireturn, 0, 0, 0, .null, [])]
def sm_t49 : List sm_I := [(0, 1, .aload_n 0, 0, 0, 0, .null, []),
  (1, 4, .getfield 19, 4, 1, 175, .null, []),
  (4, 5, .iload_n 1, 1, 0, 0, .null, []),
  (5, 8, .invokevirtual 94, 2, 1, 267, .ref 0, []),
  (8, 11, .ifCond .ne 6, 14, 0, 0, .null, []),
  (11, 13, .bipush (-101), 0, 0, 0, .int (-101), []),
  (13, 14, .ireturn, 0, 0, 0, .null, []),
  (14, 15, .iload_n 2, 2, 0, 0, .null, []),
  (15, 18, .invokestatic 81, 75, 1, 253, .null, []),
  (18, 21, .ifCond .ne 6, 24, 0, 0, .null, []),
  (21, 23, .bipush (-102), 0, 0, 0, .int (-102), []),
  (23, 24, .ireturn, 0, 0, 0, .null, []),
  (24, 25, .aload_n 0, 0, 0, 0, .null, []),
  (25, 28, .getfield 19, 4, 1, 175, .null, []),
  (28, 31, .getfield 97, 0, 3, 97, .null, []),
  (31, 32, .iload_n 1, 1, 0, 0, .null, []),
  (32, 33, .iaload, 0, 0, 0, .null, []),
  (33, 34, .iload_n 2, 2, 0, 0, .null, []),
  (34, 37, .invokestatic 113, 76, 2, 281, .null, []),
  (37, 40, .ifCond .eq 7, 44, 0, 0, .null, []),
  (40, 41, .iload_n 1, 1, 0, 0, .null, []),
  (41, 44, .goto 4, 45, 0, 0, .null, []),
  (44, 45, .iconst (-1), 0, 0, 0, .int (-1), []),
  (45, 46, .ireturn, 0, 0, 0, .null, [])]
def sm_t50 : List sm_I := [(0, 1, .aload_n 0, 0, 0, 0, .null, []),
  (1, 4, .getfield 19, 4, 1, 175, .null, []),
  (4, 5, .iload_n 1, 1, 0, 0, .null, []),
  (5, 8, .invokevirtual 94, 2, 1, 267, .ref 0, []),
  (8, 11, .ifCond .ne 6, 14, 0, 0, .null, []),
  (11, 13, .bipush (-101), 0, 0, 0, .int (-101), []),
  (13, 14, .ireturn, 0, 0, 0, .null, []),
  (14, 15, .iload_n 2, 2, 0, 0, .null, []),
  (15, 18, .invokestatic 84, 74, 1, 256, .null, []),
  (18, 21, .ifCond .ne 6, 24, 0, 0, .null, []),
  (21, 23, .bipush (-102), 0, 0, 0, .int (-102), []),
  (23, 24, .ireturn, 0, 0, 0, .null, []),
  (24, 25, .aload_n 0, 0, 0, 0, .null, []),
  (25, 28, .getfield 19, 4, 1, 175, .null, []),
  (28, 31, .getfield 103, 0, 5, 101, .null, []),
  (31, 32, .iload_n 1, 1, 0, 0, .null, []),
  (32, 33, .iaload, 0, 0, 0, .null, []),
  (33, 34, .istore_n 3, 3, 0, 0, .null, []),
  (34, 35, .aload_n 0, 0, 0, 0, .null, []),
  (35, 38, .getfield 19, 4, 1, 175, .null, []),
  (38, 41, .getfield 103, 0, 5, 101, .null, []),
  (41, 42, .iload_n 1, 1, 0, 0, .null, []),
  (42, 43, .iload_n 2, 2, 0, 0, .null, []),
  (43, 44, .iastore, 0, 0, 0, .null, []),
  (44, 45, .aload_n 0, 0, 0, 0, .null, []),
  (45, 48, .getfield 31, 4, 3, 177, .null, []),
  (48, 49, .iconst 1, 0, 0, 0, .int (nI 1), []),
  (49, 52, .putfield 65, 2, 4, 138, .null, []),
  (52, 53, .iload_n 3, 3, 0, 0, .null, []),
  (53, 54, .ireturn, 0, 0, 0, .null, [])]
def sm_t51 : List sm_I := [(0, 1, .aload_n 0, 0, 0, 0, .null, []),
  (1, 4, .getfield 19, 4, 1, 175, .null, []),
  (4, 5, .iload_n 1, 1, 0, 0, .null, []),
  (5, 8, .invokevirtual 94, 2, 1, 267, .ref 0, []),
  (8, 11, .ifCond .eq 14, 22, 0, 0, .null, []),
  (11, 12, .aload_n 0, 0, 0, 0, .null, []),
  (12, 15, .getfield 19, 4, 1, 175, .null, []),
  (15, 16, .iload_n 2, 2, 0, 0, .null, []),
  (16, 19, .invokevirtual 71, 1, 1, 242, .ref 0, []),
  (19, 22, .ifCond .ne 6, 25, 0, 0, .null, []),
  (22, 24, .bipush (-101), 0, 0, 0, .int (-101), []),
  (24, 25, .ireturn, 0, 0, 0, .null, []),
  (25, 26, .iload_n 3, 3, 0, 0, .null, []),
  (26, 29, .invokestatic 74, 73, 1, 246, .null, []),
  (29, 32, .ifCond .ne 6, 35, 0, 0, .null, []),
  (32, 34, .bipush (-102), 0, 0, 0, .int (-102), []),
  (34, 35, .ireturn, 0, 0, 0, .null, []),
  (35, 36, .aload_n 0, 0, 0, 0, .null, []),
  (36, 39, .getfield 19, 4, 1, 175, .null, []),
  (39, 42, .getfield 117, 0, 6, 103, .null, []),
  (42, 44, .bipush 10, 0, 0, 0, .int (nI 10), []),
  (44, 47, .if_icmp .lt 6, 50, 0, 0, .null, []),
  (47, 49, .bipush (-104), 0, 0, 0, .int (-104), []),
  (49, 50, .ireturn, 0, 0, 0, .null, []),
  (50, 51, .aload_n 0, 0, 0, 0, .null, []),
  (51, 54, .getfield 19, 4, 1, 175, .null, []),
  (54, 55, .iload_n 1, 1, 0, 0, .null, []),
  (55, 56, .iload_n 2, 2, 0, 0, .null, []),
  (56, 57, .iload_n 3, 3, 0, 0, .null, []),
  (57, 60, .invokevirtual 120, 5, 3, 292, .ref 0, []),
  (60, 61, .aload_n 0, 0, 0, 0, .null, []),
  (61, 64, .getfield 31, 4, 3, 177, .null, []),
  (64, 65, .iconst 1, 0, 0, 0, .int (nI 1), []),
  (65, 68, .putfield 65, 2, 4, 138, .null, []),
  (68, 69, .aload_n 0, 0, 0, 0, .null, []),
  (69, 72, .getfield 19, 4, 1, 175, .null, []),
  (72, 75, .getfield 117, 0, 6, 103, .null, []),
  (75, 76, .ireturn, 0, 0, 0, .null, [])]
def sm_t52 : List sm_I := [(0, 1, .aload_n 0, 0, 0, 0, .null, []),
  (1, 4, .getfield 19, 4, 1, 175, .null, []),
  (4, 7, .getfield 117, 0, 6, 103, .null, []),
  (7, 8, .istore_n 1, 1, 0, 0, .null, []),
  (8, 9, .aload_n 0, 0, 0, 0, .null, []),
  (9, 12, .getfield 19, 4, 1, 175, .null, []),
  (12, 15, .invokevirtual 123, 6, 0, 300, .ref 0, []),
  (15, 16, .aload_n 0, 0, 0, 0, .null, []),
  (16, 19, .getfield 31, 4, 3, 177, .null, []),
  (19, 20, .iconst 1, 0, 0, 0, .int (nI 1), []),
  (20, 23, .putfield 65, 2, 4, 138, .null, []),
  (23, 24, .iload_n 1, 1, 0, 0, .null, []),
  (24, 25, .ireturn, 0, 0, 0, .null, [])]
def sm_t53 : List sm_I := [(0, 1, .aload_n 0, 0, 0, 0, .null, []),
  (1, 4, .getfield 19, 4, 1, 175, .null, []),
  (4, 7, .getfield 68, 0, 0, 89, .null, []),
  (7, 10, .ifCond .ne 6, 13, 0, 0, .null, []),
  (10, 12, .bipush (-103), 0, 0, 0, .int (-103), []),
  (12, 13, .ireturn, 0, 0, 0, .null, []),
  (13, 14, .aload_n 0, 0, 0, 0, .null, []),
  (14, 17, .getfield 31, 4, 3, 177, .null, []),
  (17, 20, .invokevirtual 126, 27, 0, 305, .ref 2, []),
  (20, 21, .aload_n 0, 0, 0, 0, .null, []),
  (21, 24, .getfield 31, 4, 3, 177, .null, []),
  (24, 27, .getfield 129, 2, 3, 136, .null, []),
  (27, 28, .ireturn, 0, 0, 0, .null, [])]
def sm_t54 : List sm_I := [(0, 1, .aload_n 0, 0, 0, 0, .null, []),
  (1, 4, .getfield 19, 4, 1, 175, .null, []),
  (4, 5, .iload_n 1, 1, 0, 0, .null, []),
  (5, 8, .invokevirtual 94, 2, 1, 267, .ref 0, []),
  (8, 11, .ifCond .eq 14, 22, 0, 0, .null, []),
  (11, 12, .aload_n 0, 0, 0, 0, .null, []),
  (12, 15, .getfield 19, 4, 1, 175, .null, []),
  (15, 16, .iload_n 2, 2, 0, 0, .null, []),
  (16, 19, .invokevirtual 71, 1, 1, 242, .ref 0, []),
  (19, 22, .ifCond .ne 6, 25, 0, 0, .null, []),
  (22, 24, .bipush (-101), 0, 0, 0, .int (-101), []),
  (24, 25, .ireturn, 0, 0, 0, .null, []),
  (25, 26, .aload_n 0, 0, 0, 0, .null, []),
  (26, 29, .getfield 31, 4, 3, 177, .null, []),
  (29, 32, .invokevirtual 126, 27, 0, 305, .ref 2, []),
  (32, 33, .aload_n 0, 0, 0, 0, .null, []),
  (33, 36, .getfield 31, 4, 3, 177, .null, []),
  (36, 37, .iload_n 1, 1, 0, 0, .null, []),
  (37, 38, .iload_n 2, 2, 0, 0, .null, []),
  (38, 41, .invokevirtual 132, 30, 2, 338, .ref 2, []),
  (41, 42, .ireturn, 0, 0, 0, .null, [])]
def sm_t55 : List sm_I := [(0, 1, .aload_n 0, 0, 0, 0, .null, []),
  (1, 4, .getfield 19, 4, 1, 175, .null, []),
  (4, 5, .iload_n 1, 1, 0, 0, .null, []),
  (5, 8, .invokevirtual 71, 1, 1, 242, .ref 0, []),
  (8, 11, .ifCond .ne 6, 14, 0, 0, .null, []),
  (11, 13, .bipush (-101), 0, 0, 0, .int (-101), []),
  (13, 14, .ireturn, 0, 0, 0, .null, []),
  (14, 15, .aload_n 0, 0, 0, 0, .null, []),
  (15, 18, .getfield 31, 4, 3, 177, .null, []),
  (18, 21, .invokevirtual 126, 27, 0, 305, .ref 2, []),
  (21, 22, .aload_n 0, 0, 0, 0, .null, []),
  (22, 25, .getfield 31, 4, 3, 177, .null, []),
  (25, 26, .iload_n 1, 1, 0, 0, .null, []),
  (26, 29, .invokevirtual 136, 31, 1, 349, .ref 2, []),
  (29, 30, .ireturn, 0, 0, 0, .null, [])]
def sm_t56 : List sm_I := [(0, 1, .iload_n 1, 1, 0, 0, .null, []),
  (1, 4, .ifCond .lt 8, 9, 0, 0, .null, []),
  (4, 5, .iload_n 1, 1, 0, 0, .null, []),
  (5, 6, .iconst 2, 0, 0, 0, .int (nI 2), []),
  (6, 9, .if_icmp .le 6, 12, 0, 0, .null, []),
  (9, 11, .bipush (-102), 0, 0, 0, .int (-102), []),
  (11, 12, .ireturn, 0, 0, 0, .null, []),
  (12, 13, .aload_n 0, 0, 0, 0, .null, []),
  (13, 16, .invokevirtual 140, 66, 0, 357, .ref 4, []),
  (16, 19, .ifCond .eq 6, 22, 0, 0, .null, []),
  (19, 21, .bipush (-103), 0, 0, 0, .int (-103), []),
  (21, 22, .ireturn, 0, 0, 0, .null, []),
  (22, 23, .aload_n 0, 0, 0, 0, .null, []),
  (23, 24, .dup, 0, 0, 0, .null, []),
  (24, 27, .getfield 144, 4, 7, 181, .null, []),
  (27, 28, .iconst 1, 0, 0, 0, .int (nI 1), []),
  (28, 29, .iadd, 0, 0, 0, .null, []),
  (29, 32, .putfield 144, 4, 7, 181, .int 0, []),
  (32, 33, .aload_n 0, 0, 0, 0, .null, []),
  (33, 36, .getfield 31, 4, 3, 177, .null, []),
  (36, 39, .invokevirtual 126, 27, 0, 305, .ref 2, []),
  (39, 40, .aload_n 0, 0, 0, 0, .null, []),
  (40, 43, .getfield 31, 4, 3, 177, .null, []),
  (43, 46, .getfield 129, 2, 3, 136, .null, []),
  (46, 49, .ifCond .ne 5, 51, 0, 0, .null, []),
  (49, 50, .iconst (-1), 0, 0, 0, .int (-1), []),
  (50, 51, .ireturn, 0, 0, 0, .null, []),
  (51, 52, .aload_n 0, 0, 0, 0, .null, []),
  (52, 55, .getfield 31, 4, 3, 177, .null, []),
  (55, 58, .invokevirtual 147, 34, 0, 361, .ref 2, []),
  (58, 59, .istore_n 2, 2, 0, 0, .null, []),
  (59, 60, .iload_n 2, 2, 0, 0, .null, []),
  (60, 62, .bipush 6, 0, 0, 0, .int (nI 6), []),
  (62, 63, .idiv, 0, 0, 0, .null, []),
  (63, 64, .istore_n 3, 3, 0, 0, .null, []),
  (64, 65, .iload_n 2, 2, 0, 0, .null, []),
  (65, 67, .bipush 6, 0, 0, 0, .int (nI 6), []),
  (67, 68, .irem, 0, 0, 0, .null, []),
  (68, 70, .istore 4, 4, 0, 0, .null, []),
  (70, 71, .iload_n 1, 1, 0, 0, .null, []),
  (71, 74, .ifCond .ne 5, 76, 0, 0, .null, []),
  (74, 75, .iload_n 3, 3, 0, 0, .null, []),
  (75, 76, .ireturn, 0, 0, 0, .null, []),
  (76, 77, .iload_n 1, 1, 0, 0, .null, []),
  (77, 78, .iconst 1, 0, 0, 0, .int (nI 1), []),
  (78, 81, .if_icmp .ne 8, 86, 0, 0, .null, []),
  (81, 83, .iload 4, 4, 0, 0, .null, []),
  (83, 86, .goto 13, 96, 0, 0, .null, []),
  (86, 87, .aload_n 0, 0, 0, 0, .null, []),
  (87, 90, .getfield 31, 4, 3, 177, .null, []),
  (90, 91, .iload_n 3, 3, 0, 0, .null, []),
  (91, 93, .iload 4, 4, 0, 0, .null, []),
  (93, 96, .invokevirtual 150, 33, 2, 373, .ref 2, []),
  (96, 97, .ireturn, 0, 0, 0, .null, [])]
def sm_t57 : List sm_I := [(0, 1, .aload_n 0, 0, 0, 0, .null, []),
  (1, 4, .getfield 19, 4, 1, 175, .null, []),
  (4, 5, .iload_n 1, 1, 0, 0, .null, []),
  (5, 8, .invokevirtual 71, 1, 1, 242, .ref 0, []),
  (8, 11, .ifCond .ne 6, 14, 0, 0, .null, []),
  (11, 13, .bipush (-101), 0, 0, 0, .int (-101), []),
  (13, 14, .ireturn, 0, 0, 0, .null, []),
  (14, 15, .iload_n 2, 2, 0, 0, .null, []),
  (15, 18, .ifCond .lt 8, 23, 0, 0, .null, []),
  (18, 19, .iload_n 2, 2, 0, 0, .null, []),
  (19, 20, .iconst 1, 0, 0, 0, .int (nI 1), []),
  (20, 23, .if_icmp .le 6, 26, 0, 0, .null, []),
  (23, 25, .bipush (-102), 0, 0, 0, .int (-102), []),
  (25, 26, .ireturn, 0, 0, 0, .null, []),
  (26, 27, .aload_n 0, 0, 0, 0, .null, []),
  (27, 30, .invokevirtual 140, 66, 0, 357, .ref 4, []),
  (30, 33, .ifCond .eq 6, 36, 0, 0, .null, []),
  (33, 35, .bipush (-103), 0, 0, 0, .int (-103), []),
  (35, 36, .ireturn, 0, 0, 0, .null, []),
  (36, 37, .aload_n 0, 0, 0, 0, .null, []),
  (37, 38, .dup, 0, 0, 0, .null, []),
  (38, 41, .getfield 144, 4, 7, 181, .null, []),
  (41, 42, .iconst 1, 0, 0, 0, .int (nI 1), []),
  (42, 43, .iadd, 0, 0, 0, .null, []),
  (43, 46, .putfield 144, 4, 7, 181, .int 0, []),
  (46, 47, .aload_n 0, 0, 0, 0, .null, []),
  (47, 48, .iload_n 1, 1, 0, 0, .null, []),
  (48, 51, .invokevirtual 153, 67, 1, 378, .ref 4, []),
  (51, 52, .iload_n 2, 2, 0, 0, .null, []),
  (52, 55, .invokestatic 156, 72, 2, 415, .null, []),
  (55, 56, .ireturn, 0, 0, 0, .null, [])]
def sm_t58 : List sm_I := [(0, 1, .aload_n 0, 0, 0, 0, .null, []),
  (1, 4, .getfield 19, 4, 1, 175, .null, []),
  (4, 5, .iload_n 1, 1, 0, 0, .null, []),
  (5, 8, .invokevirtual 94, 2, 1, 267, .ref 0, []),
  (8, 11, .ifCond .ne 6, 14, 0, 0, .null, []),
  (11, 13, .bipush (-101), 0, 0, 0, .int (-101), []),
  (13, 14, .ireturn, 0, 0, 0, .null, []),
  (14, 15, .iload_n 2, 2, 0, 0, .null, []),
  (15, 18, .ifCond .lt 8, 23, 0, 0, .null, []),
  (18, 19, .iload_n 2, 2, 0, 0, .null, []),
  (19, 20, .iconst 1, 0, 0, 0, .int (nI 1), []),
  (20, 23, .if_icmp .le 6, 26, 0, 0, .null, []),
  (23, 25, .bipush (-102), 0, 0, 0, .int (-102), []),
  (25, 26, .ireturn, 0, 0, 0, .null, []),
  (26, 27, .aload_n 0, 0, 0, 0, .null, []),
  (27, 30, .invokevirtual 140, 66, 0, 357, .ref 4, []),
  (30, 33, .ifCond .eq 6, 36, 0, 0, .null, []),
  (33, 35, .bipush (-103), 0, 0, 0, .int (-103), []),
  (35, 36, .ireturn, 0, 0, 0, .null, []),
  (36, 37, .aload_n 0, 0, 0, 0, .null, []),
  (37, 38, .dup, 0, 0, 0, .null, []),
  (38, 41, .getfield 144, 4, 7, 181, .null, []),
  (41, 42, .iconst 1, 0, 0, 0, .int (nI 1), []),
  (42, 43, .iadd, 0, 0, 0, .null, []),
  (43, 46, .putfield 144, 4, 7, 181, .int 0, []),
  (46, 47, .aload_n 0, 0, 0, 0, .null, []),
  (47, 48, .iload_n 1, 1, 0, 0, .null, []),
  (48, 51, .invokevirtual 159, 68, 1, 422, .ref 4, []),
  (51, 52, .istore_n 3, 3, 0, 0, .null, []),
  (52, 53, .iload_n 2, 2, 0, 0, .null, []),
  (53, 56, .ifCond .ne 8, 61, 0, 0, .null, []),
  (56, 57, .iload_n 3, 3, 0, 0, .null, []),
  (57, 60, .invokestatic 162, 141, 1, 382, .null, []),
  (60, 61, .ireturn, 0, 0, 0, .null, []),
  (61, 62, .iload_n 3, 3, 0, 0, .null, []),
  (62, 65, .invokestatic 167, 69, 1, 438, .null, []),
  (65, 66, .ireturn, 0, 0, 0, .null, [])]
def sm_t59 : List sm_I := [(0, 1, .aload_n 0, 0, 0, 0, .null, []),
  (1, 4, .getfield 19, 4, 1, 175, .null, []),
  (4, 5, .iload_n 1, 1, 0, 0, .null, []),
  (5, 8, .invokevirtual 71, 1, 1, 242, .ref 0, []),
  (8, 11, .ifCond .ne 6, 14, 0, 0, .null, []),
  (11, 13, .bipush (-101), 0, 0, 0, .int (-101), []),
  (13, 14, .ireturn, 0, 0, 0, .null, []),
  (14, 15, .iload_n 2, 2, 0, 0, .null, []),
  (15, 18, .invokestatic 74, 73, 1, 246, .null, []),
  (18, 21, .ifCond .eq 12, 30, 0, 0, .null, []),
  (21, 22, .iload_n 3, 3, 0, 0, .null, []),
  (22, 25, .ifCond .lt 8, 30, 0, 0, .null, []),
  (25, 26, .iload_n 3, 3, 0, 0, .null, []),
  (26, 27, .iconst 1, 0, 0, 0, .int (nI 1), []),
  (27, 30, .if_icmp .le 6, 33, 0, 0, .null, []),
  (30, 32, .bipush (-102), 0, 0, 0, .int (-102), []),
  (32, 33, .ireturn, 0, 0, 0, .null, []),
  (33, 34, .aload_n 0, 0, 0, 0, .null, []),
  (34, 37, .getfield 19, 4, 1, 175, .null, []),
  (37, 40, .getfield 87, 0, 2, 95, .null, []),
  (40, 43, .ifCond .eq 14, 54, 0, 0, .null, []),
  (43, 44, .aload_n 0, 0, 0, 0, .null, []),
  (44, 47, .getfield 19, 4, 1, 175, .null, []),
  (47, 48, .iload_n 1, 1, 0, 0, .null, []),
  (48, 51, .invokevirtual 170, 9, 1, 445, .ref 0, []),
  (51, 54, .ifCond .ne 6, 57, 0, 0, .null, []),
  (54, 56, .bipush (-103), 0, 0, 0, .int (-103), []),
  (56, 57, .ireturn, 0, 0, 0, .null, []),
  (57, 58, .aload_n 0, 0, 0, 0, .null, []),
  (58, 59, .iload_n 1, 1, 0, 0, .null, []),
  (59, 60, .iload_n 2, 2, 0, 0, .null, []),
  (60, 63, .invokevirtual 173, 70, 2, 449, .ref 4, []),
  (63, 64, .iload_n 3, 3, 0, 0, .null, []),
  (64, 67, .invokestatic 156, 72, 2, 415, .null, []),
  (67, 68, .ireturn, 0, 0, 0, .null, [])]
def sm_t60 : List sm_I := [(0, 1, .iload_n 1, 1, 0, 0, .null, []),
  (1, 2, .iconst 1, 0, 0, 0, .int (nI 1), []),
  (2, 5, .if_icmp .lt 22, 24, 0, 0, .null, []),
  (5, 6, .iload_n 1, 1, 0, 0, .null, []),
  (6, 8, .bipush 40, 0, 0, 0, .int (nI 40), []),
  (8, 11, .if_icmp .gt 16, 24, 0, 0, .null, []),
  (11, 12, .iload_n 2, 2, 0, 0, .null, []),
  (12, 15, .ifCond .lt 12, 24, 0, 0, .null, []),
  (15, 16, .iload_n 3, 3, 0, 0, .null, []),
  (16, 19, .ifCond .lt 8, 24, 0, 0, .null, []),
  (19, 20, .iload_n 3, 3, 0, 0, .null, []),
  (20, 21, .iconst 1, 0, 0, 0, .int (nI 1), []),
  (21, 24, .if_icmp .le 6, 27, 0, 0, .null, []),
  (24, 26, .bipush (-102), 0, 0, 0, .int (-102), []),
  (26, 27, .ireturn, 0, 0, 0, .null, []),
  (27, 28, .aload_n 0, 0, 0, 0, .null, []),
  (28, 31, .getfield 19, 4, 1, 175, .null, []),
  (31, 34, .getfield 68, 0, 0, 89, .null, []),
  (34, 37, .ifCond .ne 6, 40, 0, 0, .null, []),
  (37, 39, .bipush (-103), 0, 0, 0, .int (-103), []),
  (39, 40, .ireturn, 0, 0, 0, .null, []),
  (40, 41, .iload_n 2, 2, 0, 0, .null, []),
  (41, 43, .istore 4, 4, 0, 0, .null, []),
  (43, 44, .iconst 0, 0, 0, 0, .int (nI 0), []),
  (44, 46, .istore 5, 5, 0, 0, .null, []),
  (46, 47, .iconst 0, 0, 0, 0, .int (nI 0), []),
  (47, 49, .istore 6, 6, 0, 0, .null, []),
  (49, 51, .iload 6, 6, 0, 0, .null, []),
  (51, 52, .iload_n 1, 1, 0, 0, .null, []),
  (52, 55, .if_icmp .ge 110, 162, 0, 0, .null, []),
  (55, 56, .aload_n 0, 0, 0, 0, .null, []),
  (56, 59, .getfield 19, 4, 1, 175, .null, []),
  (59, 62, .invokevirtual 176, 13, 0, 465, .ref 0, []),
  (62, 64, .istore 7, 7, 0, 0, .null, []),
  (64, 65, .iconst 0, 0, 0, 0, .int (nI 0), []),
  (65, 67, .istore 8, 8, 0, 0, .null, []),
  (67, 69, .iload 8, 8, 0, 0, .null, []),
  (69, 70, .aload_n 0, 0, 0, 0, .null, []),
  (70, 73, .getfield 19, 4, 1, 175, .null, []),
  (73, 76, .getfield 68, 0, 0, 89, .null, []),
  (76, 79, .if_icmp .ge 80, 156, 0, 0, .null, []),
  (79, 80, .aload_n 0, 0, 0, 0, .null, []),
  (80, 83, .getfield 19, 4, 1, 175, .null, []),
  (83, 86, .getfield 77, 0, 1, 91, .null, []),
  (86, 88, .iload 8, 8, 0, 0, .null, []),
  (88, 89, .iaload, 0, 0, 0, .null, []),
  (89, 91, .istore 9, 9, 0, 0, .null, []),
  (91, 93, .iload 9, 9, 0, 0, .null, []),
  (93, 94, .iconst (-1), 0, 0, 0, .int (-1), []),
  (94, 97, .if_icmp .ne 19, 113, 0, 0, .null, []),
  (97, 99, .iload 4, 4, 0, 0, .null, []),
  (99, 102, .invokestatic 179, 77, 1, 466, .null, []),
  (102, 104, .istore 4, 4, 0, 0, .null, []),
  (104, 106, .iload 4, 4, 0, 0, .null, []),
  (106, 108, .ldc 182, 0, 0, 471, .int (nI 65536), []),
  (108, 109, .idiv, 0, 0, 0, .null, []),
  (109, 110, .iconst 4, 0, 0, 0, .int (nI 4), []),
  (110, 111, .irem, 0, 0, 0, .null, []),
  (111, 113, .istore 9, 9, 0, 0, .null, []),
  (113, 114, .aload_n 0, 0, 0, 0, .null, []),
  (114, 117, .getfield 19, 4, 1, 175, .null, []),
  (117, 119, .iload 7, 7, 0, 0, .null, []),
  (119, 121, .iload 9, 9, 0, 0, .null, []),
  (121, 124, .invokevirtual 183, 14, 2, 472, .ref 0, []),
  (124, 126, .istore 7, 7, 0, 0, .null, []),
  (126, 127, .aload_n 0, 0, 0, 0, .null, []),
  (127, 130, .getfield 19, 4, 1, 175, .null, []),
  (130, 131, .aload_n 0, 0, 0, 0, .null, []),
  (131, 134, .getfield 19, 4, 1, 175, .null, []),
  (134, 136, .iload 7, 7, 0, 0, .null, []),
  (136, 138, .iload 9, 9, 0, 0, .null, []),
  (138, 141, .invokevirtual 186, 19, 2, 473, .ref 0, []),
  (141, 144, .invokevirtual 189, 20, 1, 457, .ref 0, []),
  (144, 147, .ifCond .eq 6, 150, 0, 0, .null, []),
  (147, 150, .iinc 5 1, 5, 0, 0, .int (nI 1), []),
  (150, 153, .iinc 8 1, 8, 0, 0, .int (nI 1), []),
  (153, 156, .goto (-86), 67, 0, 0, .null, []),
  (156, 159, .iinc 6 1, 6, 0, 0, .int (nI 1), []),
  (159, 162, .goto (-110), 49, 0, 0, .null, []),
  (162, 163, .iload_n 3, 3, 0, 0, .null, []),
  (163, 166, .ifCond .ne 8, 171, 0, 0, .null, []),
  (166, 168, .iload 5, 5, 0, 0, .null, []),
  (168, 171, .goto 5, 173, 0, 0, .null, []),
  (171, 173, .iload 4, 4, 0, 0, .null, []),
  (173, 174, .ireturn, 0, 0, 0, .null, [])]
def sm_t61 : List sm_I := [(0, 1, .aload_n 0, 0, 0, 0, .null, []),
  (1, 4, .getfield 19, 4, 1, 175, .null, []),
  (4, 7, .getfield 68, 0, 0, 89, .null, []),
  (7, 10, .ifCond .ne 6, 13, 0, 0, .null, []),
  (10, 12, .bipush (-103), 0, 0, 0, .int (-103), []),
  (12, 13, .ireturn, 0, 0, 0, .null, []),
  (13, 14, .aload_n 0, 0, 0, 0, .null, []),
  (14, 17, .getfield 23, 4, 2, 176, .null, []),
  (17, 18, .aload_n 0, 0, 0, 0, .null, []),
  (18, 21, .getfield 19, 4, 1, 175, .null, []),
  (21, 24, .invokevirtual 192, 7, 1, 481, .ref 0, []),
  (24, 25, .aload_n 0, 0, 0, 0, .null, []),
  (25, 26, .iconst 1, 0, 0, 0, .int (nI 1), []),
  (26, 29, .putfield 58, 4, 5, 179, .null, []),
  (29, 30, .aload_n 0, 0, 0, 0, .null, []),
  (30, 33, .getfield 19, 4, 1, 175, .null, []),
  (33, 36, .getfield 87, 0, 2, 95, .null, []),
  (36, 37, .ireturn, 0, 0, 0, .null, [])]
def sm_t62 : List sm_I := [(0, 1, .aload_n 0, 0, 0, 0, .null, []),
  (1, 4, .getfield 58, 4, 5, 179, .null, []),
  (4, 7, .ifCond .ne 6, 10, 0, 0, .null, []),
  (7, 9, .bipush (-103), 0, 0, 0, .int (-103), []),
  (9, 10, .ireturn, 0, 0, 0, .null, []),
  (10, 11, .aload_n 0, 0, 0, 0, .null, []),
  (11, 14, .getfield 19, 4, 1, 175, .null, []),
  (14, 15, .aload_n 0, 0, 0, 0, .null, []),
  (15, 18, .getfield 23, 4, 2, 176, .null, []),
  (18, 21, .invokevirtual 192, 7, 1, 481, .ref 0, []),
  (21, 22, .aload_n 0, 0, 0, 0, .null, []),
  (22, 25, .getfield 31, 4, 3, 177, .null, []),
  (25, 26, .iconst 1, 0, 0, 0, .int (nI 1), []),
  (26, 29, .putfield 65, 2, 4, 138, .null, []),
  (29, 30, .aload_n 0, 0, 0, 0, .null, []),
  (30, 33, .getfield 19, 4, 1, 175, .null, []),
  (33, 36, .getfield 87, 0, 2, 95, .null, []),
  (36, 37, .ireturn, 0, 0, 0, .null, [])]
def sm_t63 : List sm_I := [(0, 1, .iload_n 1, 1, 0, 0, .null, []),
  (1, 44, .tableswitch 93 0 6 #[43, 51, 59, 67, 75, 83, 88], 94, 43, 0, .null, [((nI 0), 44), ((nI 1), 52), ((nI 2), 60), ((nI 3), 68), ((nI 4), 76), ((nI 5), 84), ((nI 6), 89)]),
  (44, 45, .aload_n 0, 0, 0, 0, .null, []),
  (45, 48, .getfield 19, 4, 1, 175, .null, []),
  (48, 51, .getfield 68, 0, 0, 89, .null, []),
  (51, 52, .ireturn, 0, 0, 0, .null, []),
  (52, 53, .aload_n 0, 0, 0, 0, .null, []),
  (53, 56, .getfield 19, 4, 1, 175, .null, []),
  (56, 59, .invokevirtual 195, 8, 0, 493, .ref 0, []),
  (59, 60, .ireturn, 0, 0, 0, .null, []),
  (60, 61, .aload_n 0, 0, 0, 0, .null, []),
  (61, 64, .getfield 19, 4, 1, 175, .null, []),
  (64, 67, .getfield 87, 0, 2, 95, .null, []),
  (67, 68, .ireturn, 0, 0, 0, .null, []),
  (68, 69, .aload_n 0, 0, 0, 0, .null, []),
  (69, 72, .getfield 19, 4, 1, 175, .null, []),
  (72, 75, .getfield 117, 0, 6, 103, .null, []),
  (75, 76, .ireturn, 0, 0, 0, .null, []),
  (76, 77, .aload_n 0, 0, 0, 0, .null, []),
  (77, 80, .getfield 10, 4, 0, 174, .null, []),
  (80, 83, .getfield 46, 1, 1, 72, .null, []),
  (83, 84, .ireturn, 0, 0, 0, .null, []),
  (84, 85, .aload_n 0, 0, 0, 0, .null, []),
  (85, 88, .getfield 62, 4, 6, 180, .null, []),
  (88, 89, .ireturn, 0, 0, 0, .null, []),
  (89, 90, .aload_n 0, 0, 0, 0, .null, []),
  (90, 93, .getfield 144, 4, 7, 181, .null, []),
  (93, 94, .ireturn, 0, 0, 0, .null, []),
  (94, 96, .bipush (-102), 0, 0, 0, .int (-102), []),
  (96, 97, .ireturn, 0, 0, 0, .null, [])]
def sm_t64 : List sm_I := [(0, 3, .ldc2_w 198, 0, 0, 501, .long (lN 823), []),
  (3, 4, .lstore_n 1, 1, 0, 0, .null, []),
  (4, 5, .iconst 0, 0, 0, 0, .int (nI 0), []),
  (5, 6, .istore_n 3, 3, 0, 0, .null, []),
  (6, 7, .iload_n 3, 3, 0, 0, .null, []),
  (7, 8, .aload_n 0, 0, 0, 0, .null, []),
  (8, 11, .getfield 19, 4, 1, 175, .null, []),
  (11, 14, .getfield 87, 0, 2, 95, .null, []),
  (14, 17, .if_icmp .ge 16, 30, 0, 0, .null, []),
  (17, 18, .aload_n 0, 0, 0, 0, .null, []),
  (18, 19, .lload_n 1, 1, 0, 0, .null, []),
  (19, 20, .iload_n 3, 3, 0, 0, .null, []),
  (20, 23, .invokevirtual 200, 65, 2, 502, .ref 4, []),
  (23, 24, .lstore_n 1, 1, 0, 0, .null, []),
  (24, 27, .iinc 3 1, 3, 0, 0, .int (nI 1), []),
  (27, 30, .goto (-21), 6, 0, 0, .null, []),
  (30, 31, .iconst 0, 0, 0, 0, .int (nI 0), []),
  (31, 32, .istore_n 3, 3, 0, 0, .null, []),
  (32, 33, .iload_n 3, 3, 0, 0, .null, []),
  (33, 34, .aload_n 0, 0, 0, 0, .null, []),
  (34, 37, .getfield 19, 4, 1, 175, .null, []),
  (37, 40, .getfield 68, 0, 0, 89, .null, []),
  (40, 43, .if_icmp .ge 22, 62, 0, 0, .null, []),
  (43, 46, .ldc2_w 204, 0, 0, 506, .long (lN 31), []),
  (46, 47, .lload_n 1, 1, 0, 0, .null, []),
  (47, 48, .lmul, 0, 0, 0, .null, []),
  (48, 49, .aload_n 0, 0, 0, 0, .null, []),
  (49, 50, .iload_n 3, 3, 0, 0, .null, []),
  (50, 53, .invokevirtual 206, 55, 1, 509, .ref 4, []),
  (53, 54, .i2l, 0, 0, 0, .null, []),
  (54, 55, .ladd, 0, 0, 0, .null, []),
  (55, 56, .lstore_n 1, 1, 0, 0, .null, []),
  (56, 59, .iinc 3 1, 3, 0, 0, .int (nI 1), []),
  (59, 62, .goto (-27), 32, 0, 0, .null, []),
  (62, 63, .aload_n 0, 0, 0, 0, .null, []),
  (63, 66, .getfield 19, 4, 1, 175, .null, []),
  (66, 69, .getfield 68, 0, 0, 89, .null, []),
  (69, 72, .ifCond .le 15, 84, 0, 0, .null, []),
  (72, 75, .ldc2_w 204, 0, 0, 506, .long (lN 31), []),
  (75, 76, .lload_n 1, 1, 0, 0, .null, []),
  (76, 77, .lmul, 0, 0, 0, .null, []),
  (77, 78, .aload_n 0, 0, 0, 0, .null, []),
  (78, 81, .invokevirtual 209, 53, 0, 510, .ref 4, []),
  (81, 82, .i2l, 0, 0, 0, .null, []),
  (82, 83, .ladd, 0, 0, 0, .null, []),
  (83, 84, .lstore_n 1, 1, 0, 0, .null, []),
  (84, 85, .iconst 0, 0, 0, 0, .int (nI 0), []),
  (85, 86, .istore_n 3, 3, 0, 0, .null, []),
  (86, 87, .iload_n 3, 3, 0, 0, .null, []),
  (87, 88, .aload_n 0, 0, 0, 0, .null, []),
  (88, 91, .getfield 10, 4, 0, 174, .null, []),
  (91, 94, .getfield 46, 1, 1, 72, .null, []),
  (94, 97, .if_icmp .ge 26, 120, 0, 0, .null, []),
  (97, 100, .ldc2_w 204, 0, 0, 506, .long (lN 31), []),
  (100, 101, .lload_n 1, 1, 0, 0, .null, []),
  (101, 102, .lmul, 0, 0, 0, .null, []),
  (102, 103, .aload_n 0, 0, 0, 0, .null, []),
  (103, 106, .getfield 10, 4, 0, 174, .null, []),
  (106, 109, .getfield 212, 1, 0, 70, .null, []),
  (109, 110, .iload_n 3, 3, 0, 0, .null, []),
  (110, 111, .iaload, 0, 0, 0, .null, []),
  (111, 112, .i2l, 0, 0, 0, .null, []),
  (112, 113, .ladd, 0, 0, 0, .null, []),
  (113, 114, .lstore_n 1, 1, 0, 0, .null, []),
  (114, 117, .iinc 3 1, 3, 0, 0, .int (nI 1), []),
  (117, 120, .goto (-31), 86, 0, 0, .null, []),
  (120, 121, .iconst 0, 0, 0, 0, .int (nI 0), []),
  (121, 122, .istore_n 3, 3, 0, 0, .null, []),
  (122, 123, .iload_n 3, 3, 0, 0, .null, []),
  (123, 125, .bipush 6, 0, 0, 0, .int (nI 6), []),
  (125, 128, .if_icmp .gt 22, 147, 0, 0, .null, []),
  (128, 131, .ldc2_w 204, 0, 0, 506, .long (lN 31), []),
  (131, 132, .lload_n 1, 1, 0, 0, .null, []),
  (132, 133, .lmul, 0, 0, 0, .null, []),
  (133, 134, .aload_n 0, 0, 0, 0, .null, []),
  (134, 135, .iload_n 3, 3, 0, 0, .null, []),
  (135, 138, .invokevirtual 215, 63, 1, 511, .ref 4, []),
  (138, 139, .i2l, 0, 0, 0, .null, []),
  (139, 140, .ladd, 0, 0, 0, .null, []),
  (140, 141, .lstore_n 1, 1, 0, 0, .null, []),
  (141, 144, .iinc 3 1, 3, 0, 0, .int (nI 1), []),
  (144, 147, .goto (-22), 122, 0, 0, .null, []),
  (147, 148, .lload_n 1, 1, 0, 0, .null, []),
  (148, 149, .lreturn, 0, 0, 0, .null, [])]
def sm_t65 : List sm_I := [(0, 1, .lload_n 1, 1, 0, 0, .null, []),
  (1, 3, .lstore 4, 4, 0, 0, .null, []),
  (3, 4, .iconst 0, 0, 0, 0, .int (nI 0), []),
  (4, 6, .istore 6, 6, 0, 0, .null, []),
  (6, 8, .iload 6, 6, 0, 0, .null, []),
  (8, 9, .iconst 3, 0, 0, 0, .int (nI 3), []),
  (9, 12, .if_icmp .gt 26, 35, 0, 0, .null, []),
  (12, 15, .ldc2_w 204, 0, 0, 506, .long (lN 31), []),
  (15, 17, .lload 4, 4, 0, 0, .null, []),
  (17, 18, .lmul, 0, 0, 0, .null, []),
  (18, 19, .aload_n 0, 0, 0, 0, .null, []),
  (19, 20, .iload_n 3, 3, 0, 0, .null, []),
  (20, 22, .iload 6, 6, 0, 0, .null, []),
  (22, 25, .invokevirtual 218, 48, 2, 507, .ref 4, []),
  (25, 26, .i2l, 0, 0, 0, .null, []),
  (26, 27, .ladd, 0, 0, 0, .null, []),
  (27, 29, .lstore 4, 4, 0, 0, .null, []),
  (29, 32, .iinc 6 1, 6, 0, 0, .int (nI 1), []),
  (32, 35, .goto (-26), 6, 0, 0, .null, []),
  (35, 37, .bipush 10, 0, 0, 0, .int (nI 10), []),
  (37, 39, .istore 6, 6, 0, 0, .null, []),
  (39, 41, .iload 6, 6, 0, 0, .null, []),
  (41, 43, .bipush 13, 0, 0, 0, .int (nI 13), []),
  (43, 46, .if_icmp .gt 26, 69, 0, 0, .null, []),
  (46, 49, .ldc2_w 204, 0, 0, 506, .long (lN 31), []),
  (49, 51, .lload 4, 4, 0, 0, .null, []),
  (51, 52, .lmul, 0, 0, 0, .null, []),
  (52, 53, .aload_n 0, 0, 0, 0, .null, []),
  (53, 54, .iload_n 3, 3, 0, 0, .null, []),
  (54, 56, .iload 6, 6, 0, 0, .null, []),
  (56, 59, .invokevirtual 218, 48, 2, 507, .ref 4, []),
  (59, 60, .i2l, 0, 0, 0, .null, []),
  (60, 61, .ladd, 0, 0, 0, .null, []),
  (61, 63, .lstore 4, 4, 0, 0, .null, []),
  (63, 66, .iinc 6 1, 6, 0, 0, .int (nI 1), []),
  (66, 69, .goto (-27), 39, 0, 0, .null, []),
  (69, 70, .iconst 0, 0, 0, 0, .int (nI 0), []),
  (70, 72, .istore 6, 6, 0, 0, .null, []),
  (72, 74, .iload 6, 6, 0, 0, .null, []),
  (74, 75, .aload_n 0, 0, 0, 0, .null, []),
  (75, 78, .getfield 19, 4, 1, 175, .null, []),
  (78, 81, .getfield 68, 0, 0, 89, .null, []),
  (81, 84, .if_icmp .ge 26, 107, 0, 0, .null, []),
  (84, 87, .ldc2_w 204, 0, 0, 506, .long (lN 31), []),
  (87, 89, .lload 4, 4, 0, 0, .null, []),
  (89, 90, .lmul, 0, 0, 0, .null, []),
  (90, 91, .aload_n 0, 0, 0, 0, .null, []),
  (91, 92, .iload_n 3, 3, 0, 0, .null, []),
  (92, 94, .iload 6, 6, 0, 0, .null, []),
  (94, 97, .invokevirtual 221, 54, 2, 508, .ref 4, []),
  (97, 98, .i2l, 0, 0, 0, .null, []),
  (98, 99, .ladd, 0, 0, 0, .null, []),
  (99, 101, .lstore 4, 4, 0, 0, .null, []),
  (101, 104, .iinc 6 1, 6, 0, 0, .int (nI 1), []),
  (104, 107, .goto (-32), 72, 0, 0, .null, []),
  (107, 109, .lload 4, 4, 0, 0, .null, []),
  (109, 110, .lreturn, 0, 0, 0, .null, [])]
def sm_t66 : List sm_I := [(0, 1, .aload_n 0, 0, 0, 0, .null, []),
  (1, 4, .getfield 19, 4, 1, 175, .null, []),
  (4, 7, .getfield 87, 0, 2, 95, .null, []),
  (7, 10, .ifCond .eq 12, 19, 0, 0, .null, []),
  (10, 11, .aload_n 0, 0, 0, 0, .null, []),
  (11, 14, .getfield 144, 4, 7, 181, .null, []),
  (14, 16, .bipush 30, 0, 0, 0, .int (nI 30), []),
  (16, 19, .if_icmp .lt 7, 23, 0, 0, .null, []),
  (19, 20, .iconst 1, 0, 0, 0, .int (nI 1), []),
  (20, 23, .goto 4, 24, 0, 0, .null, []),
  (23, 24, .iconst 0, 0, 0, 0, .int (nI 0), []),
  (24, 25, .ireturn, 0, 1, 0, .null, [])]
def sm_t67 : List sm_I := [(0, 1, .aload_n 0, 0, 0, 0, .null, []),
  (1, 4, .getfield 31, 4, 3, 177, .null, []),
  (4, 7, .invokevirtual 126, 27, 0, 305, .ref 2, []),
  (7, 8, .aload_n 0, 0, 0, 0, .null, []),
  (8, 11, .getfield 31, 4, 3, 177, .null, []),
  (11, 14, .getfield 129, 2, 3, 136, .null, []),
  (14, 17, .ifCond .ne 5, 19, 0, 0, .null, []),
  (17, 18, .iconst (-1), 0, 0, 0, .int (-1), []),
  (18, 19, .ireturn, 0, 0, 0, .null, []),
  (19, 20, .aload_n 0, 0, 0, 0, .null, []),
  (20, 23, .getfield 31, 4, 3, 177, .null, []),
  (23, 24, .iload_n 1, 1, 0, 0, .null, []),
  (24, 27, .invokevirtual 136, 31, 1, 349, .ref 2, []),
  (27, 30, .invokestatic 162, 141, 1, 382, .null, []),
  (30, 31, .iconst 1, 0, 0, 0, .int (nI 1), []),
  (31, 34, .if_icmp .ne 5, 36, 0, 0, .null, []),
  (34, 35, .iconst 0, 0, 0, 0, .int (nI 0), []),
  (35, 36, .ireturn, 0, 0, 0, .null, []),
  (36, 37, .iconst (-1), 0, 0, 0, .int (-1), []),
  (37, 38, .istore_n 2, 2, 0, 0, .null, []),
  (38, 39, .iconst 1, 0, 0, 0, .int (nI 1), []),
  (39, 40, .istore_n 3, 3, 0, 0, .null, []),
  (40, 41, .iload_n 3, 3, 0, 0, .null, []),
  (41, 42, .iconst 1, 0, 0, 0, .int (nI 1), []),
  (42, 43, .aload_n 0, 0, 0, 0, .null, []),
  (43, 46, .getfield 19, 4, 1, 175, .null, []),
  (46, 49, .getfield 87, 0, 2, 95, .null, []),
  (49, 50, .ishl, 0, 0, 0, .null, []),
  (50, 53, .if_icmp .ge 31, 81, 0, 0, .null, []),
  (53, 54, .iload_n 3, 3, 0, 0, .null, []),
  (54, 55, .iload_n 2, 2, 0, 0, .null, []),
  (55, 58, .invokestatic 224, 71, 2, 388, .null, []),
  (58, 61, .ifCond .eq 17, 75, 0, 0, .null, []),
  (61, 62, .aload_n 0, 0, 0, 0, .null, []),
  (62, 65, .getfield 38, 4, 4, 178, .null, []),
  (65, 66, .iload_n 3, 3, 0, 0, .null, []),
  (66, 67, .iload_n 1, 1, 0, 0, .null, []),
  (67, 70, .invokevirtual 227, 36, 2, 391, .ref 3, []),
  (70, 73, .ifCond .eq 5, 75, 0, 0, .null, []),
  (73, 74, .iload_n 3, 3, 0, 0, .null, []),
  (74, 75, .istore_n 2, 2, 0, 0, .null, []),
  (75, 78, .iinc 3 1, 3, 0, 0, .int (nI 1), []),
  (78, 81, .goto (-38), 40, 0, 0, .null, []),
  (81, 82, .iload_n 2, 2, 0, 0, .null, []),
  (82, 83, .ireturn, 0, 0, 0, .null, [])]
def sm_t68 : List sm_I := [(0, 1, .aload_n 0, 0, 0, 0, .null, []),
  (1, 4, .getfield 19, 4, 1, 175, .null, []),
  (4, 7, .getfield 97, 0, 3, 97, .null, []),
  (7, 8, .iload_n 1, 1, 0, 0, .null, []),
  (8, 9, .iaload, 0, 0, 0, .null, []),
  (9, 10, .istore_n 2, 2, 0, 0, .null, []),
  (10, 11, .aload_n 0, 0, 0, 0, .null, []),
  (11, 14, .getfield 19, 4, 1, 175, .null, []),
  (14, 17, .getfield 103, 0, 5, 101, .null, []),
  (17, 18, .iload_n 1, 1, 0, 0, .null, []),
  (18, 19, .iaload, 0, 0, 0, .null, []),
  (19, 20, .istore_n 3, 3, 0, 0, .null, []),
  (20, 21, .iconst 0, 0, 0, 0, .int (nI 0), []),
  (21, 23, .istore 4, 4, 0, 0, .null, []),
  (23, 24, .iconst 0, 0, 0, 0, .int (nI 0), []),
  (24, 26, .istore 5, 5, 0, 0, .null, []),
  (26, 28, .iload 5, 5, 0, 0, .null, []),
  (28, 30, .bipush 20, 0, 0, 0, .int (nI 20), []),
  (30, 33, .if_icmp .ge 54, 84, 0, 0, .null, []),
  (33, 34, .aload_n 0, 0, 0, 0, .null, []),
  (34, 37, .getfield 19, 4, 1, 175, .null, []),
  (37, 40, .getfield 97, 0, 3, 97, .null, []),
  (40, 41, .iload_n 1, 1, 0, 0, .null, []),
  (41, 43, .iload 5, 5, 0, 0, .null, []),
  (43, 44, .iconst 4, 0, 0, 0, .int (nI 4), []),
  (44, 45, .idiv, 0, 0, 0, .null, []),
  (45, 46, .iastore, 0, 0, 0, .null, []),
  (46, 47, .aload_n 0, 0, 0, 0, .null, []),
  (47, 50, .getfield 19, 4, 1, 175, .null, []),
  (50, 53, .getfield 103, 0, 5, 101, .null, []),
  (53, 54, .iload_n 1, 1, 0, 0, .null, []),
  (54, 56, .iload 5, 5, 0, 0, .null, []),
  (56, 57, .iconst 4, 0, 0, 0, .int (nI 4), []),
  (57, 58, .irem, 0, 0, 0, .null, []),
  (58, 59, .iastore, 0, 0, 0, .null, []),
  (59, 60, .aload_n 0, 0, 0, 0, .null, []),
  (60, 63, .getfield 19, 4, 1, 175, .null, []),
  (63, 66, .invokevirtual 230, 16, 0, 426, .ref 0, []),
  (66, 69, .ifCond .eq 12, 78, 0, 0, .null, []),
  (69, 71, .iload 4, 4, 0, 0, .null, []),
  (71, 72, .iconst 1, 0, 0, 0, .int (nI 1), []),
  (72, 74, .iload 5, 5, 0, 0, .null, []),
  (74, 75, .ishl, 0, 0, 0, .null, []),
  (75, 76, .ior, 0, 0, 0, .null, []),
  (76, 78, .istore 4, 4, 0, 0, .null, []),
  (78, 81, .iinc 5 1, 5, 0, 0, .int (nI 1), []),
  (81, 84, .goto (-55), 26, 0, 0, .null, []),
  (84, 85, .aload_n 0, 0, 0, 0, .null, []),
  (85, 88, .getfield 19, 4, 1, 175, .null, []),
  (88, 91, .getfield 97, 0, 3, 97, .null, []),
  (91, 92, .iload_n 1, 1, 0, 0, .null, []),
  (92, 93, .iload_n 2, 2, 0, 0, .null, []),
  (93, 94, .iastore, 0, 0, 0, .null, []),
  (94, 95, .aload_n 0, 0, 0, 0, .null, []),
  (95, 98, .getfield 19, 4, 1, 175, .null, []),
  (98, 101, .getfield 103, 0, 5, 101, .null, []),
  (101, 102, .iload_n 1, 1, 0, 0, .null, []),
  (102, 103, .iload_n 3, 3, 0, 0, .null, []),
  (103, 104, .iastore, 0, 0, 0, .null, []),
  (104, 106, .iload 4, 4, 0, 0, .null, []),
  (106, 107, .ireturn, 0, 0, 0, .null, [])]
def sm_t69 : List sm_I := [(0, 1, .iconst 0, 0, 0, 0, .int (nI 0), []),
  (1, 2, .istore_n 1, 1, 0, 0, .null, []),
  (2, 3, .iload_n 1, 1, 0, 0, .null, []),
  (3, 5, .bipush 32, 0, 0, 0, .int (nI 32), []),
  (5, 8, .if_icmp .ge 20, 25, 0, 0, .null, []),
  (8, 9, .iload_n 0, 0, 0, 0, .null, []),
  (9, 10, .iload_n 1, 1, 0, 0, .null, []),
  (10, 11, .ishr, 0, 0, 0, .null, []),
  (11, 12, .iconst 1, 0, 0, 0, .int (nI 1), []),
  (12, 13, .iand, 0, 0, 0, .null, []),
  (13, 14, .iconst 1, 0, 0, 0, .int (nI 1), []),
  (14, 17, .if_icmp .ne 5, 19, 0, 0, .null, []),
  (17, 18, .iload_n 1, 1, 0, 0, .null, []),
  (18, 19, .ireturn, 0, 0, 0, .null, []),
  (19, 22, .iinc 1 1, 1, 0, 0, .int (nI 1), []),
  (22, 25, .goto (-20), 2, 0, 0, .null, []),
  (25, 26, .iconst (-1), 0, 0, 0, .int (-1), []),
  (26, 27, .ireturn, 0, 0, 0, .null, [])]
def sm_t70 : List sm_I := [(0, 1, .iconst 0, 0, 0, 0, .int (nI 0), []),
  (1, 2, .istore_n 3, 3, 0, 0, .null, []),
  (2, 3, .iconst 0, 0, 0, 0, .int (nI 0), []),
  (3, 5, .istore 4, 4, 0, 0, .null, []),
  (5, 6, .iconst 0, 0, 0, 0, .int (nI 0), []),
  (6, 8, .istore 5, 5, 0, 0, .null, []),
  (8, 10, .iload 5, 5, 0, 0, .null, []),
  (10, 11, .aload_n 0, 0, 0, 0, .null, []),
  (11, 14, .getfield 19, 4, 1, 175, .null, []),
  (14, 17, .getfield 87, 0, 2, 95, .null, []),
  (17, 20, .if_icmp .ge 77, 94, 0, 0, .null, []),
  (20, 21, .iconst 0, 0, 0, 0, .int (nI 0), []),
  (21, 23, .istore 6, 6, 0, 0, .null, []),
  (23, 25, .iload 6, 6, 0, 0, .null, []),
  (25, 26, .iconst 4, 0, 0, 0, .int (nI 4), []),
  (26, 29, .if_icmp .ge 62, 88, 0, 0, .null, []),
  (29, 30, .aload_n 0, 0, 0, 0, .null, []),
  (30, 33, .getfield 19, 4, 1, 175, .null, []),
  (33, 35, .iload 5, 5, 0, 0, .null, []),
  (35, 37, .iload 6, 6, 0, 0, .null, []),
  (37, 38, .iload_n 1, 1, 0, 0, .null, []),
  (38, 41, .invokevirtual 233, 18, 3, 453, .ref 0, []),
  (41, 42, .iload_n 2, 2, 0, 0, .null, []),
  (42, 45, .if_icmp .eq 6, 48, 0, 0, .null, []),
  (45, 48, .goto 37, 82, 0, 0, .null, []),
  (48, 50, .iload 6, 6, 0, 0, .null, []),
  (50, 51, .aload_n 0, 0, 0, 0, .null, []),
  (51, 54, .getfield 19, 4, 1, 175, .null, []),
  (54, 57, .getfield 103, 0, 5, 101, .null, []),
  (57, 59, .iload 5, 5, 0, 0, .null, []),
  (59, 60, .iaload, 0, 0, 0, .null, []),
  (60, 63, .if_icmp .ne 13, 73, 0, 0, .null, []),
  (63, 64, .iload_n 3, 3, 0, 0, .null, []),
  (64, 65, .iconst 1, 0, 0, 0, .int (nI 1), []),
  (65, 67, .iload 5, 5, 0, 0, .null, []),
  (67, 68, .ishl, 0, 0, 0, .null, []),
  (68, 69, .ior, 0, 0, 0, .null, []),
  (69, 70, .istore_n 3, 3, 0, 0, .null, []),
  (70, 73, .goto 12, 82, 0, 0, .null, []),
  (73, 75, .iload 4, 4, 0, 0, .null, []),
  (75, 76, .iconst 1, 0, 0, 0, .int (nI 1), []),
  (76, 78, .iload 5, 5, 0, 0, .null, []),
  (78, 79, .ishl, 0, 0, 0, .null, []),
  (79, 80, .ior, 0, 0, 0, .null, []),
  (80, 82, .istore 4, 4, 0, 0, .null, []),
  (82, 85, .iinc 6 1, 6, 0, 0, .int (nI 1), []),
  (85, 88, .goto (-62), 23, 0, 0, .null, []),
  (88, 91, .iinc 5 1, 5, 0, 0, .int (nI 1), []),
  (91, 94, .goto (-83), 8, 0, 0, .null, []),
  (94, 95, .iconst (-1), 0, 0, 0, .int (-1), []),
  (95, 97, .istore 5, 5, 0, 0, .null, []),
  (97, 98, .iconst 0, 0, 0, 0, .int (nI 0), []),
  (98, 100, .istore 6, 6, 0, 0, .null, []),
  (100, 102, .iload 6, 6, 0, 0, .null, []),
  (102, 103, .iconst 1, 0, 0, 0, .int (nI 1), []),
  (103, 104, .aload_n 0, 0, 0, 0, .null, []),
  (104, 107, .getfield 19, 4, 1, 175, .null, []),
  (107, 110, .getfield 87, 0, 2, 95, .null, []),
  (110, 111, .ishl, 0, 0, 0, .null, []),
  (111, 114, .if_icmp .ge 52, 163, 0, 0, .null, []),
  (114, 115, .iload_n 3, 3, 0, 0, .null, []),
  (115, 117, .iload 6, 6, 0, 0, .null, []),
  (117, 118, .iconst (-1), 0, 0, 0, .int (-1), []),
  (118, 119, .ixor, 0, 0, 0, .null, []),
  (119, 120, .iand, 0, 0, 0, .null, []),
  (120, 122, .iload 4, 4, 0, 0, .null, []),
  (122, 124, .iload 6, 6, 0, 0, .null, []),
  (124, 125, .iand, 0, 0, 0, .null, []),
  (125, 126, .ior, 0, 0, 0, .null, []),
  (126, 128, .istore 7, 7, 0, 0, .null, []),
  (128, 130, .iload 6, 6, 0, 0, .null, []),
  (130, 132, .iload 5, 5, 0, 0, .null, []),
  (132, 135, .invokestatic 224, 71, 2, 388, .null, []),
  (135, 138, .ifCond .eq 22, 157, 0, 0, .null, []),
  (138, 139, .aload_n 0, 0, 0, 0, .null, []),
  (139, 142, .getfield 19, 4, 1, 175, .null, []),
  (142, 144, .iload 7, 7, 0, 0, .null, []),
  (144, 147, .invokestatic 162, 141, 1, 382, .null, []),
  (147, 150, .invokevirtual 189, 20, 1, 457, .ref 0, []),
  (150, 153, .ifCond .eq 7, 157, 0, 0, .null, []),
  (153, 155, .iload 6, 6, 0, 0, .null, []),
  (155, 157, .istore 5, 5, 0, 0, .null, []),
  (157, 160, .iinc 6 1, 6, 0, 0, .int (nI 1), []),
  (160, 163, .goto (-60), 100, 0, 0, .null, []),
  (163, 165, .iload 5, 5, 0, 0, .null, []),
  (165, 166, .ireturn, 0, 0, 0, .null, [])]
def sm_t71 : List sm_I := [(0, 1, .iload_n 1, 1, 0, 0, .null, []),
  (1, 2, .iconst (-1), 0, 0, 0, .int (-1), []),
  (2, 5, .if_icmp .eq 14, 16, 0, 0, .null, []),
  (5, 6, .iload_n 0, 0, 0, 0, .null, []),
  (6, 9, .invokestatic 162, 141, 1, 382, .null, []),
  (9, 10, .iload_n 1, 1, 0, 0, .null, []),
  (10, 13, .invokestatic 162, 141, 1, 382, .null, []),
  (13, 16, .if_icmp .ge 7, 20, 0, 0, .null, []),
  (16, 17, .iconst 1, 0, 0, 0, .int (nI 1), []),
  (17, 20, .goto 4, 21, 0, 0, .null, []),
  (20, 21, .iconst 0, 0, 0, 0, .int (nI 0), []),
  (21, 22, .ireturn, 0, 1, 0, .null, [])]
def sm_t72 : List sm_I := [(0, 1, .iload_n 0, 0, 0, 0, .null, []),
  (1, 2, .iconst (-1), 0, 0, 0, .int (-1), []),
  (2, 5, .if_icmp .eq 8, 10, 0, 0, .null, []),
  (5, 6, .iload_n 1, 1, 0, 0, .null, []),
  (6, 7, .iconst 1, 0, 0, 0, .int (nI 1), []),
  (7, 10, .if_icmp .ne 7, 14, 0, 0, .null, []),
  (10, 11, .iload_n 0, 0, 0, 0, .null, []),
  (11, 14, .goto 7, 18, 0, 0, .null, []),
  (14, 15, .iload_n 0, 0, 0, 0, .null, []),
  (15, 18, .invokestatic 162, 141, 1, 382, .null, []),
  (18, 19, .ireturn, 0, 0, 0, .null, [])]
def sm_t73 : List sm_I := [(0, 1, .iload_n 0, 0, 0, 0, .null, []),
  (1, 4, .ifCond .lt 12, 13, 0, 0, .null, []),
  (4, 5, .iload_n 0, 0, 0, 0, .null, []),
  (5, 6, .iconst 4, 0, 0, 0, .int (nI 4), []),
  (6, 9, .if_icmp .ge 7, 13, 0, 0, .null, []),
  (9, 10, .iconst 1, 0, 0, 0, .int (nI 1), []),
  (10, 13, .goto 4, 14, 0, 0, .null, []),
  (13, 14, .iconst 0, 0, 0, 0, .int (nI 0), []),
  (14, 15, .ireturn, 0, 1, 0, .null, [])]
def sm_t74 : List sm_I := [(0, 1, .iload_n 0, 0, 0, 0, .null, []),
  (1, 4, .ifCond .lt 12, 13, 0, 0, .null, []),
  (4, 5, .iload_n 0, 0, 0, 0, .null, []),
  (5, 6, .iconst 4, 0, 0, 0, .int (nI 4), []),
  (6, 9, .if_icmp .ge 7, 13, 0, 0, .null, []),
  (9, 10, .iconst 1, 0, 0, 0, .int (nI 1), []),
  (10, 13, .goto 4, 14, 0, 0, .null, []),
  (13, 14, .iconst 0, 0, 0, 0, .int (nI 0), []),
  (14, 15, .ireturn, 0, 1, 0, .null, [])]
def sm_t75 : List sm_I := [(0, 1, .iload_n 0, 0, 0, 0, .null, []),
  (1, 4, .ifCond .lt 12, 13, 0, 0, .null, []),
  (4, 5, .iload_n 0, 0, 0, 0, .null, []),
  (5, 6, .iconst 5, 0, 0, 0, .int (nI 5), []),
  (6, 9, .if_icmp .ge 7, 13, 0, 0, .null, []),
  (9, 10, .iconst 1, 0, 0, 0, .int (nI 1), []),
  (10, 13, .goto 4, 14, 0, 0, .null, []),
  (13, 14, .iconst 0, 0, 0, 0, .int (nI 0), []),
  (14, 15, .ireturn, 0, 1, 0, .null, [])]
def sm_t76 : List sm_I := [(0, 1, .iload_n 1, 1, 0, 0, .null, []),
  (1, 4, .ifCond .eq 18, 19, 0, 0, .null, []),
  (4, 5, .iload_n 1, 1, 0, 0, .null, []),
  (5, 6, .iload_n 0, 0, 0, 0, .null, []),
  (6, 9, .if_icmp .eq 13, 19, 0, 0, .null, []),
  (9, 10, .iload_n 0, 0, 0, 0, .null, []),
  (10, 11, .iconst 4, 0, 0, 0, .int (nI 4), []),
  (11, 14, .if_icmp .ne 12, 23, 0, 0, .null, []),
  (14, 15, .iload_n 1, 1, 0, 0, .null, []),
  (15, 16, .iconst 3, 0, 0, 0, .int (nI 3), []),
  (16, 19, .if_icmp .ne 7, 23, 0, 0, .null, []),
  (19, 20, .iconst 1, 0, 0, 0, .int (nI 1), []),
  (20, 23, .goto 4, 24, 0, 0, .null, []),
  (23, 24, .iconst 0, 0, 0, 0, .int (nI 0), []),
  (24, 25, .ireturn, 0, 1, 0, .null, [])]
def sm_t77 : List sm_I := [(0, 2, .ldc 237, 0, 0, 469, .int (nI 1103515245), []),
  (2, 3, .iload_n 0, 0, 0, 0, .null, []),
  (3, 4, .imul, 0, 0, 0, .null, []),
  (4, 7, .sipush 12345, 0, 0, 0, .int (nI 12345), []),
  (7, 8, .iadd, 0, 0, 0, .null, []),
  (8, 10, .ldc 238, 0, 0, 470, .int (nI 2147483647), []),
  (10, 11, .iand, 0, 0, 0, .null, []),
  (11, 12, .ireturn, 0, 0, 0, .null, [])]
def sm_t78 : List sm_I := [(0, 1, .aload_n 0, 0, 0, 0, .null, []),
  (1, 4, .invokespecial 1, 0, 0, 0, .null, []),
  (4, 5, .aload_n 0, 0, 0, 0, .null, []),
  (5, 7, .bipush 6, 0, 0, 0, .int (nI 6), []),
  (7, 9, .newarray .int, 0, 0, 0, .null, []),
  (9, 12, .putfield 7, 5, 2, 520, .ref 0, []),
  (12, 13, .aload_n 0, 0, 0, 0, .null, []),
  (13, 14, .iconst 4, 0, 0, 0, .int (nI 4), []),
  (14, 16, .newarray .int, 0, 0, 0, .null, []),
  (16, 19, .putfield 13, 5, 4, 522, .ref 0, []),
  (19, 20, .aload_n 0, 0, 0, 0, .null, []),
  (20, 21, .iconst 4, 0, 0, 0, .int (nI 4), []),
  (21, 23, .newarray .int, 0, 0, 0, .null, []),
  (23, 26, .putfield 16, 5, 5, 523, .ref 0, []),
  (26, 27, .aload_n 0, 0, 0, 0, .null, []),
  (27, 28, .iconst 4, 0, 0, 0, .int (nI 4), []),
  (28, 30, .newarray .int, 0, 0, 0, .null, []),
  (30, 33, .putfield 19, 5, 6, 524, .ref 0, []),
  (33, 34, .aload_n 0, 0, 0, 0, .null, []),
  (34, 36, .bipush 10, 0, 0, 0, .int (nI 10), []),
  (36, 38, .newarray .int, 0, 0, 0, .null, []),
  (38, 41, .putfield 22, 5, 8, 526, .ref 0, []),
  (41, 42, .aload_n 0, 0, 0, 0, .null, []),
  (42, 44, .bipush 10, 0, 0, 0, .int (nI 10), []),
  (44, 46, .newarray .int, 0, 0, 0, .null, []),
  (46, 49, .putfield 25, 5, 9, 527, .ref 0, []),
  (49, 50, .aload_n 0, 0, 0, 0, .null, []),
  (50, 52, .bipush 10, 0, 0, 0, .int (nI 10), []),
  (52, 54, .newarray .int, 0, 0, 0, .null, []),
  (54, 57, .putfield 28, 5, 10, 528, .ref 0, []),
  (57, 58, .aload_n 0, 0, 0, 0, .null, []),
  (58, 60, .bipush 8, 0, 0, 0, .int (nI 8), []),
  (60, 62, .newarray .byte, 0, 0, 0, .null, []),
  (62, 65, .putfield 31, 5, 13, 531, .ref 0, []),
  (65, 66, .aload_n 0, 0, 0, 0, .null, []),
  (66, 68, .bipush 6, 0, 0, 0, .int (nI 6), []),
  (68, 70, .newarray .int, 0, 0, 0, .null, []),
  (70, 73, .putfield 35, 5, 14, 532, .ref 0, []),
  (73, 74, .aload_n 0, 0, 0, 0, .null, []),
  (74, 76, .bipush 24, 0, 0, 0, .int (nI 24), []),
  (76, 78, .newarray .int, 0, 0, 0, .null, []),
  (78, 81, .putfield 38, 5, 15, 533, .ref 0, []),
  (81, 82, .aload_n 0, 0, 0, 0, .null, []),
  (82, 84, .bipush 96, 0, 0, 0, .int (nI 96), []),
  (84, 86, .newarray .int, 0, 0, 0, .null, []),
  (86, 89, .putfield 41, 5, 16, 534, .ref 0, []),
  (89, 90, .aload_n 0, 0, 0, 0, .null, []),
  (90, 93, .sipush 8192, 0, 0, 0, .int (nI 8192), []),
  (93, 95, .newarray .long, 0, 0, 0, .null, []),
  (95, 98, .putfield 44, 5, 17, 535, .ref 0, []),
  (98, 99, .aload_n 0, 0, 0, 0, .null, []),
  (99, 102, .sipush 8192, 0, 0, 0, .int (nI 8192), []),
  (102, 104, .newarray .int, 0, 0, 0, .null, []),
  (104, 107, .putfield 48, 5, 18, 536, .ref 0, []),
  (107, 108, .aload_n 0, 0, 0, 0, .null, []),
  (108, 111, .sipush 8192, 0, 0, 0, .int (nI 8192), []),
  (111, 113, .newarray .int, 0, 0, 0, .null, []),
  (113, 116, .putfield 51, 5, 19, 537, .ref 0, []),
  (116, 117, .aload_n 0, 0, 0, 0, .null, []),
  (117, 119, .bipush 6, 0, 0, 0, .int (nI 6), []),
  (119, 121, .newarray .int, 0, 0, 0, .null, []),
  (121, 124, .putfield 54, 5, 26, 544, .ref 0, []),
  (124, 125, .aload_n 0, 0, 0, 0, .null, []),
  (125, 126, .iconst 4, 0, 0, 0, .int (nI 4), []),
  (126, 128, .newarray .int, 0, 0, 0, .null, []),
  (128, 131, .putfield 57, 5, 27, 545, .ref 0, []),
  (131, 132, .aload_n 0, 0, 0, 0, .null, []),
  (132, 134, .bipush 10, 0, 0, 0, .int (nI 10), []),
  (134, 136, .newarray .int, 0, 0, 0, .null, []),
  (136, 139, .putfield 60, 5, 28, 546, .ref 0, []),
  (139, 140, .aload_n 0, 0, 0, 0, .null, []),
  (140, 142, .bipush 10, 0, 0, 0, .int (nI 10), []),
  (142, 144, .newarray .int, 0, 0, 0, .null, []),
  (144, 147, .putfield 63, 5, 29, 547, .ref 0, []),
  (147, 148, .aload_n 0, 0, 0, 0, .null, []),
  (148, 150, .bipush 10, 0, 0, 0, .int (nI 10), []),
  (150, 152, .newarray .int, 0, 0, 0, .null, []),
  (152, 155, .putfield 66, 5, 30, 548, .ref 0, []),
  (155, 156, .return_, 0, 0, 0, .null, [])]
def sm_t79 : List sm_I := [(0, 1, .iload_n 0, 0, 0, 0, .null, []),
  (1, 2, .iload_n 1, 1, 0, 0, .null, []),
  (2, 5, .if_icmp .lt 12, 14, 0, 0, .null, []),
  (5, 6, .iload_n 0, 0, 0, 0, .null, []),
  (6, 7, .iload_n 2, 2, 0, 0, .null, []),
  (7, 10, .if_icmp .gt 7, 14, 0, 0, .null, []),
  (10, 11, .iconst 1, 0, 0, 0, .int (nI 1), []),
  (11, 14, .goto 4, 15, 0, 0, .null, []),
  (14, 15, .iconst 0, 0, 0, 0, .int (nI 0), []),
  (15, 16, .ireturn, 0, 1, 0, .null, [])]
def sm_t80 : List sm_I := [(0, 1, .iload_n 0, 0, 0, 0, .null, []),
  (1, 2, .iconst 0, 0, 0, 0, .int (nI 0), []),
  (2, 3, .iconst 3, 0, 0, 0, .int (nI 3), []),
  (3, 6, .invokestatic 69, 79, 3, 621, .null, []),
  (6, 7, .ireturn, 0, 1, 0, .null, [])]
def sm_t81 : List sm_I := [(0, 1, .iconst 0, 0, 0, 0, .int (nI 0), []),
  (1, 2, .istore_n 1, 1, 0, 0, .null, []),
  (2, 3, .iconst 0, 0, 0, 0, .int (nI 0), []),
  (3, 4, .istore_n 2, 2, 0, 0, .null, []),
  (4, 5, .iload_n 2, 2, 0, 0, .null, []),
  (5, 6, .iconst 4, 0, 0, 0, .int (nI 4), []),
  (6, 9, .if_icmp .ge 17, 23, 0, 0, .null, []),
  (9, 10, .iload_n 1, 1, 0, 0, .null, []),
  (10, 11, .iload_n 0, 0, 0, 0, .null, []),
  (11, 12, .iload_n 2, 2, 0, 0, .null, []),
  (12, 13, .ishr, 0, 0, 0, .null, []),
  (13, 14, .iconst 1, 0, 0, 0, .int (nI 1), []),
  (14, 15, .iand, 0, 0, 0, .null, []),
  (15, 16, .iadd, 0, 0, 0, .null, []),
  (16, 17, .istore_n 1, 1, 0, 0, .null, []),
  (17, 20, .iinc 2 1, 2, 0, 0, .int (nI 1), []),
  (20, 23, .goto (-16), 4, 0, 0, .null, []),
  (23, 24, .iload_n 1, 1, 0, 0, .null, []),
  (24, 25, .ireturn, 0, 0, 0, .null, [])]
def sm_t82 : List sm_I := [(0, 1, .iload_n 1, 1, 0, 0, .null, []),
  (1, 3, .bipush 32, 0, 0, 0, .int (nI 32), []),
  (3, 5, .bipush 126, 0, 0, 0, .int (nI 126), []),
  (5, 8, .invokestatic 69, 79, 3, 621, .null, []),
  (8, 11, .ifCond .ne 6, 14, 0, 0, .null, []),
  (11, 13, .bipush (-102), 0, 0, 0, .int (-102), []),
  (13, 14, .ireturn, 0, 0, 0, .null, []),
  (14, 15, .aload_n 0, 0, 0, 0, .null, []),
  (15, 18, .getfield 73, 5, 12, 530, .null, []),
  (18, 20, .bipush 8, 0, 0, 0, .int (nI 8), []),
  (20, 23, .if_icmp .ne 6, 26, 0, 0, .null, []),
  (23, 25, .bipush (-104), 0, 0, 0, .int (-104), []),
  (25, 26, .ireturn, 0, 0, 0, .null, []),
  (26, 27, .aload_n 0, 0, 0, 0, .null, []),
  (27, 30, .getfield 31, 5, 13, 531, .null, []),
  (30, 31, .aload_n 0, 0, 0, 0, .null, []),
  (31, 34, .getfield 73, 5, 12, 530, .null, []),
  (34, 35, .iload_n 1, 1, 0, 0, .null, []),
  (35, 36, .i2b, 0, 0, 0, .null, []),
  (36, 37, .bastore, 0, 0, 0, .null, []),
  (37, 38, .aload_n 0, 0, 0, 0, .null, []),
  (38, 39, .dup, 0, 0, 0, .null, []),
  (39, 42, .getfield 73, 5, 12, 530, .null, []),
  (42, 43, .iconst 1, 0, 0, 0, .int (nI 1), []),
  (43, 44, .iadd, 0, 0, 0, .null, []),
  (44, 47, .putfield 73, 5, 12, 530, .int 0, []),
  (47, 48, .aload_n 0, 0, 0, 0, .null, []),
  (48, 51, .getfield 73, 5, 12, 530, .null, []),
  (51, 52, .ireturn, 0, 0, 0, .null, [])]
def sm_t83 : List sm_I := [(0, 1, .aload_n 0, 0, 0, 0, .null, []),
  (1, 4, .getfield 73, 5, 12, 530, .null, []),
  (4, 5, .istore_n 1, 1, 0, 0, .null, []),
  (5, 6, .aload_n 0, 0, 0, 0, .null, []),
  (6, 7, .iconst 0, 0, 0, 0, .int (nI 0), []),
  (7, 10, .putfield 73, 5, 12, 530, .int 0, []),
  (10, 11, .iload_n 1, 1, 0, 0, .null, []),
  (11, 12, .ireturn, 0, 0, 0, .null, [])]
def sm_t84 : List sm_I := [(0, 1, .iload_n 0, 0, 0, 0, .null, []),
  (1, 52, .lookupswitch 61 #[(63, 59), (101, 53), (110, 51), (115, 55), (119, 57)], 62, 51, 0, .null, [((nI 63), 60), ((nI 101), 54), ((nI 110), 52), ((nI 115), 56), ((nI 119), 58)]),
  (52, 53, .iconst 0, 0, 0, 0, .int (nI 0), []),
  (53, 54, .ireturn, 0, 0, 0, .null, []),
  (54, 55, .iconst 1, 0, 0, 0, .int (nI 1), []),
  (55, 56, .ireturn, 0, 0, 0, .null, []),
  (56, 57, .iconst 2, 0, 0, 0, .int (nI 2), []),
  (57, 58, .ireturn, 0, 0, 0, .null, []),
  (58, 59, .iconst 3, 0, 0, 0, .int (nI 3), []),
  (59, 60, .ireturn, 0, 0, 0, .null, []),
  (60, 61, .iconst (-1), 0, 0, 0, .int (-1), []),
  (61, 62, .ireturn, 0, 0, 0, .null, []),
  (62, 64, .bipush (-2), 0, 0, 0, .int (-2), []),
  (64, 65, .ireturn, 0, 0, 0, .null, [])]
def sm_t85 : List sm_I := [(0, 1, .iconst 0, 0, 0, 0, .int (nI 0), []),
  (1, 2, .istore_n 1, 1, 0, 0, .null, []),
  (2, 3, .iload_n 1, 1, 0, 0, .null, []),
  (3, 4, .aload_n 0, 0, 0, 0, .null, []),
  (4, 7, .getfield 73, 5, 12, 530, .null, []),
  (7, 10, .if_icmp .ge 29, 36, 0, 0, .null, []),
  (10, 11, .iload_n 1, 1, 0, 0, .null, []),
  (11, 13, .bipush 6, 0, 0, 0, .int (nI 6), []),
  (13, 16, .if_icmp .ge 23, 36, 0, 0, .null, []),
  (16, 17, .aload_n 0, 0, 0, 0, .null, []),
  (17, 20, .getfield 31, 5, 13, 531, .null, []),
  (20, 21, .iload_n 1, 1, 0, 0, .null, []),
  (21, 22, .baload, 0, 0, 0, .null, []),
  (22, 25, .invokestatic 77, 84, 1, 636, .null, []),
  (25, 27, .bipush (-2), 0, 0, 0, .int (-2), []),
  (27, 30, .if_icmp .eq 9, 36, 0, 0, .null, []),
  (30, 33, .iinc 1 1, 1, 0, 0, .int (nI 1), []),
  (33, 36, .goto (-31), 2, 0, 0, .null, []),
  (36, 37, .iload_n 1, 1, 0, 0, .null, []),
  (37, 38, .ireturn, 0, 0, 0, .null, [])]
def sm_t86 : List sm_I := [(0, 1, .aload_n 0, 0, 0, 0, .null, []),
  (1, 4, .invokevirtual 81, 85, 0, 632, .ref 5, []),
  (4, 5, .ireturn, 0, 0, 0, .null, [])]
def sm_t87 : List sm_I := [(0, 1, .aload_n 0, 0, 0, 0, .null, []),
  (1, 4, .getfield 73, 5, 12, 530, .null, []),
  (4, 7, .ifCond .eq 14, 18, 0, 0, .null, []),
  (7, 8, .aload_n 0, 0, 0, 0, .null, []),
  (8, 11, .invokevirtual 81, 85, 0, 632, .ref 5, []),
  (11, 12, .aload_n 0, 0, 0, 0, .null, []),
  (12, 15, .getfield 73, 5, 12, 530, .null, []),
  (15, 18, .if_icmp .eq 6, 21, 0, 0, .null, []),
  (18, 20, .bipush (-103), 0, 0, 0, .int (-103), []),
  (20, 21, .ireturn, 0, 0, 0, .null, []),
  (21, 22, .aload_n 0, 0, 0, 0, .null, []),
  (22, 23, .aload_n 0, 0, 0, 0, .null, []),
  (23, 26, .getfield 73, 5, 12, 530, .null, []),
  (26, 29, .putfield 85, 5, 1, 519, .int 0, []),
  (29, 30, .iconst 0, 0, 0, 0, .int (nI 0), []),
  (30, 31, .istore_n 1, 1, 0, 0, .null, []),
  (31, 32, .iload_n 1, 1, 0, 0, .null, []),
  (32, 33, .aload_n 0, 0, 0, 0, .null, []),
  (33, 36, .getfield 85, 5, 1, 519, .null, []),
  (36, 39, .if_icmp .ge 24, 60, 0, 0, .null, []),
  (39, 40, .aload_n 0, 0, 0, 0, .null, []),
  (40, 43, .getfield 7, 5, 2, 520, .null, []),
  (43, 44, .iload_n 1, 1, 0, 0, .null, []),
  (44, 45, .aload_n 0, 0, 0, 0, .null, []),
  (45, 48, .getfield 31, 5, 13, 531, .null, []),
  (48, 49, .iload_n 1, 1, 0, 0, .null, []),
  (49, 50, .baload, 0, 0, 0, .null, []),
  (50, 53, .invokestatic 77, 84, 1, 636, .null, []),
  (53, 54, .iastore, 0, 0, 0, .null, []),
  (54, 57, .iinc 1 1, 1, 0, 0, .int (nI 1), []),
  (57, 60, .goto (-26), 31, 0, 0, .null, []),
  (60, 61, .aload_n 0, 0, 0, 0, .null, []),
  (61, 62, .dup, 0, 0, 0, .null, []),
  (62, 65, .getfield 88, 5, 0, 518, .null, []),
  (65, 66, .iconst 1, 0, 0, 0, .int (nI 1), []),
  (66, 67, .iadd, 0, 0, 0, .null, []),
  (67, 70, .putfield 88, 5, 0, 518, .int 0, []),
  (70, 71, .aload_n 0, 0, 0, 0, .null, []),
  (71, 72, .iconst 0, 0, 0, 0, .int (nI 0), []),
  (72, 75, .putfield 91, 5, 3, 521, .int 0, []),
  (75, 76, .aload_n 0, 0, 0, 0, .null, []),
  (76, 77, .iconst 0, 0, 0, 0, .int (nI 0), []),
  (77, 80, .putfield 94, 5, 7, 525, .int 0, []),
  (80, 81, .aload_n 0, 0, 0, 0, .null, []),
  (81, 82, .iconst 0, 0, 0, 0, .int (nI 0), []),
  (82, 85, .putfield 73, 5, 12, 530, .int 0, []),
  (85, 86, .aload_n 0, 0, 0, 0, .null, []),
  (86, 89, .getfield 85, 5, 1, 519, .null, []),
  (89, 90, .ireturn, 0, 0, 0, .null, [])]
def sm_t88 : List sm_I := [(0, 1, .iload_n 1, 1, 0, 0, .null, []),
  (1, 2, .iconst 0, 0, 0, 0, .int (nI 0), []),
  (2, 3, .aload_n 0, 0, 0, 0, .null, []),
  (3, 6, .getfield 85, 5, 1, 519, .null, []),
  (6, 7, .iconst 1, 0, 0, 0, .int (nI 1), []),
  (7, 8, .isub, 0, 0, 0, .null, []),
  (8, 11, .invokestatic 69, 79, 3, 621, .null, []),
  (11, 12, .ireturn, 0, 1, 0, .null, [])]
def sm_t89 : List sm_I := [(0, 1, .iload_n 1, 1, 0, 0, .null, []),
  (1, 2, .iconst 0, 0, 0, 0, .int (nI 0), []),
  (2, 3, .aload_n 0, 0, 0, 0, .null, []),
  (3, 6, .getfield 91, 5, 3, 521, .null, []),
  (6, 7, .iconst 1, 0, 0, 0, .int (nI 1), []),
  (7, 8, .isub, 0, 0, 0, .null, []),
  (8, 11, .invokestatic 69, 79, 3, 621, .null, []),
  (11, 12, .ireturn, 0, 1, 0, .null, [])]
def sm_t90 : List sm_I := [(0, 1, .aload_n 0, 0, 0, 0, .null, []),
  (1, 2, .iload_n 1, 1, 0, 0, .null, []),
  (2, 5, .invokevirtual 97, 88, 1, 647, .ref 5, []),
  (5, 8, .ifCond .ne 6, 11, 0, 0, .null, []),
  (8, 10, .bipush (-101), 0, 0, 0, .int (-101), []),
  (10, 11, .ireturn, 0, 0, 0, .null, []),
  (11, 12, .iload_n 2, 2, 0, 0, .null, []),
  (12, 13, .iconst (-1), 0, 0, 0, .int (-1), []),
  (13, 14, .iconst 3, 0, 0, 0, .int (nI 3), []),
  (14, 17, .invokestatic 69, 79, 3, 621, .null, []),
  (17, 20, .ifCond .ne 6, 23, 0, 0, .null, []),
  (20, 22, .bipush (-102), 0, 0, 0, .int (-102), []),
  (22, 23, .ireturn, 0, 0, 0, .null, []),
  (23, 24, .aload_n 0, 0, 0, 0, .null, []),
  (24, 27, .getfield 7, 5, 2, 520, .null, []),
  (27, 28, .iload_n 1, 1, 0, 0, .null, []),
  (28, 29, .iaload, 0, 0, 0, .null, []),
  (29, 30, .istore_n 3, 3, 0, 0, .null, []),
  (30, 31, .aload_n 0, 0, 0, 0, .null, []),
  (31, 34, .getfield 7, 5, 2, 520, .null, []),
  (34, 35, .iload_n 1, 1, 0, 0, .null, []),
  (35, 36, .iload_n 2, 2, 0, 0, .null, []),
  (36, 37, .iastore, 0, 0, 0, .null, []),
  (37, 38, .iload_n 3, 3, 0, 0, .null, []),
  (38, 39, .ireturn, 0, 0, 0, .null, [])]
def sm_t91 : List sm_I := [(0, 1, .iload_n 1, 1, 0, 0, .null, []),
  (1, 2, .iload_n 0, 0, 0, 0, .null, []),
  (2, 3, .isub, 0, 0, 0, .null, []),
  (3, 4, .iconst 4, 0, 0, 0, .int (nI 4), []),
  (4, 5, .iadd, 0, 0, 0, .null, []),
  (5, 6, .iconst 4, 0, 0, 0, .int (nI 4), []),
  (6, 7, .irem, 0, 0, 0, .null, []),
  (7, 8, .istore_n 2, 2, 0, 0, .null, []),
  (8, 9, .iload_n 2, 2, 0, 0, .null, []),
  (9, 12, .ifCond .ne 7, 16, 0, 0, .null, []),
  (12, 13, .iconst 0, 0, 0, 0, .int (nI 0), []),
  (13, 16, .goto 13, 26, 0, 0, .null, []),
  (16, 17, .iload_n 2, 2, 0, 0, .null, []),
  (17, 18, .iconst 3, 0, 0, 0, .int (nI 3), []),
  (18, 21, .if_icmp .ne 7, 25, 0, 0, .null, []),
  (21, 22, .iconst 3, 0, 0, 0, .int (nI 3), []),
  (22, 25, .goto 4, 26, 0, 0, .null, []),
  (25, 26, .iconst 1, 0, 0, 0, .int (nI 1), []),
  (26, 27, .istore_n 3, 3, 0, 0, .null, []),
  (27, 28, .iload_n 0, 0, 0, 0, .null, []),
  (28, 29, .iload_n 3, 3, 0, 0, .null, []),
  (29, 30, .iadd, 0, 0, 0, .null, []),
  (30, 31, .iconst 4, 0, 0, 0, .int (nI 4), []),
  (31, 32, .irem, 0, 0, 0, .null, []),
  (32, 33, .ireturn, 0, 0, 0, .null, [])]
def sm_t92 : List sm_I := [(0, 1, .iload_n 0, 0, 0, 0, .null, []),
  (1, 32, .tableswitch 64 1 4 #[31, 37, 48, 54], 65, 31, 0, .null, [((nI 1), 32), ((nI 2), 38), ((nI 3), 49), ((nI 4), 55)]),
  (32, 33, .iload_n 2, 2, 0, 0, .null, []),
  (33, 34, .iload_n 3, 3, 0, 0, .null, []),
  (34, 37, .invokestatic 101, 91, 2, 677, .null, []),
  (37, 38, .ireturn, 0, 0, 0, .null, []),
  (38, 39, .iload_n 3, 3, 0, 0, .null, []),
  (39, 40, .iload_n 1, 1, 0, 0, .null, []),
  (40, 43, .if_icmp .ne 7, 47, 0, 0, .null, []),
  (43, 44, .iload_n 2, 2, 0, 0, .null, []),
  (44, 47, .goto 4, 48, 0, 0, .null, []),
  (47, 48, .iload_n 3, 3, 0, 0, .null, []),
  (48, 49, .ireturn, 0, 0, 0, .null, []),
  (49, 50, .iload_n 3, 3, 0, 0, .null, []),
  (50, 51, .iload_n 1, 1, 0, 0, .null, []),
  (51, 52, .iadd, 0, 0, 0, .null, []),
  (52, 53, .iconst 4, 0, 0, 0, .int (nI 4), []),
  (53, 54, .irem, 0, 0, 0, .null, []),
  (54, 55, .ireturn, 0, 0, 0, .null, []),
  (55, 56, .iload_n 2, 2, 0, 0, .null, []),
  (56, 57, .iload_n 3, 3, 0, 0, .null, []),
  (57, 58, .iload_n 1, 1, 0, 0, .null, []),
  (58, 59, .iadd, 0, 0, 0, .null, []),
  (59, 60, .iconst 4, 0, 0, 0, .int (nI 4), []),
  (60, 61, .irem, 0, 0, 0, .null, []),
  (61, 64, .invokestatic 101, 91, 2, 677, .null, []),
  (64, 65, .ireturn, 0, 0, 0, .null, []),
  (65, 66, .iload_n 3, 3, 0, 0, .null, []),
  (66, 67, .ireturn, 0, 0, 0, .null, [])]
def sm_t93 : List sm_I := [(0, 1, .iload_n 1, 1, 0, 0, .null, []),
  (1, 2, .iconst 0, 0, 0, 0, .int (nI 0), []),
  (2, 3, .iconst 4, 0, 0, 0, .int (nI 4), []),
  (3, 6, .invokestatic 69, 79, 3, 621, .null, []),
  (6, 9, .ifCond .eq 17, 23, 0, 0, .null, []),
  (9, 10, .iload_n 2, 2, 0, 0, .null, []),
  (10, 13, .invokestatic 105, 80, 1, 655, .null, []),
  (13, 16, .ifCond .eq 10, 23, 0, 0, .null, []),
  (16, 17, .iload_n 3, 3, 0, 0, .null, []),
  (17, 20, .invokestatic 105, 80, 1, 655, .null, []),
  (20, 23, .ifCond .ne 6, 26, 0, 0, .null, []),
  (23, 25, .bipush (-102), 0, 0, 0, .int (-102), []),
  (25, 26, .ireturn, 0, 0, 0, .null, []),
  (26, 27, .aload_n 0, 0, 0, 0, .null, []),
  (27, 30, .getfield 85, 5, 1, 519, .null, []),
  (30, 33, .ifCond .ne 6, 36, 0, 0, .null, []),
  (33, 35, .bipush (-103), 0, 0, 0, .int (-103), []),
  (35, 36, .ireturn, 0, 0, 0, .null, []),
  (36, 37, .aload_n 0, 0, 0, 0, .null, []),
  (37, 40, .getfield 91, 5, 3, 521, .null, []),
  (40, 41, .iconst 4, 0, 0, 0, .int (nI 4), []),
  (41, 44, .if_icmp .ne 6, 47, 0, 0, .null, []),
  (44, 46, .bipush (-104), 0, 0, 0, .int (-104), []),
  (46, 47, .ireturn, 0, 0, 0, .null, []),
  (47, 48, .aload_n 0, 0, 0, 0, .null, []),
  (48, 51, .getfield 13, 5, 4, 522, .null, []),
  (51, 52, .aload_n 0, 0, 0, 0, .null, []),
  (52, 55, .getfield 91, 5, 3, 521, .null, []),
  (55, 56, .iload_n 1, 1, 0, 0, .null, []),
  (56, 57, .iastore, 0, 0, 0, .null, []),
  (57, 58, .aload_n 0, 0, 0, 0, .null, []),
  (58, 61, .getfield 16, 5, 5, 523, .null, []),
  (61, 62, .aload_n 0, 0, 0, 0, .null, []),
  (62, 65, .getfield 91, 5, 3, 521, .null, []),
  (65, 66, .iload_n 2, 2, 0, 0, .null, []),
  (66, 67, .iastore, 0, 0, 0, .null, []),
  (67, 68, .aload_n 0, 0, 0, 0, .null, []),
  (68, 71, .getfield 19, 5, 6, 524, .null, []),
  (71, 72, .aload_n 0, 0, 0, 0, .null, []),
  (72, 75, .getfield 91, 5, 3, 521, .null, []),
  (75, 76, .iload_n 3, 3, 0, 0, .null, []),
  (76, 77, .iastore, 0, 0, 0, .null, []),
  (77, 78, .aload_n 0, 0, 0, 0, .null, []),
  (78, 79, .dup, 0, 0, 0, .null, []),
  (79, 82, .getfield 91, 5, 3, 521, .null, []),
  (82, 83, .iconst 1, 0, 0, 0, .int (nI 1), []),
  (83, 84, .iadd, 0, 0, 0, .null, []),
  (84, 87, .putfield 91, 5, 3, 521, .int 0, []),
  (87, 88, .aload_n 0, 0, 0, 0, .null, []),
  (88, 91, .getfield 91, 5, 3, 521, .null, []),
  (91, 92, .iconst 1, 0, 0, 0, .int (nI 1), []),
  (92, 93, .isub, 0, 0, 0, .null, []),
  (93, 94, .ireturn, 0, 0, 0, .null, [])]
def sm_t94 : List sm_I := [(0, 1, .iconst 0, 0, 0, 0, .int (nI 0), []),
  (1, 2, .istore_n 2, 2, 0, 0, .null, []),
  (2, 3, .iconst 0, 0, 0, 0, .int (nI 0), []),
  (3, 4, .istore_n 3, 3, 0, 0, .null, []),
  (4, 5, .iload_n 3, 3, 0, 0, .null, []),
  (5, 6, .aload_n 0, 0, 0, 0, .null, []),
  (6, 9, .getfield 94, 5, 7, 525, .null, []),
  (9, 12, .if_icmp .ge 27, 36, 0, 0, .null, []),
  (12, 13, .iload_n 2, 2, 0, 0, .null, []),
  (13, 14, .aload_n 0, 0, 0, 0, .null, []),
  (14, 17, .getfield 22, 5, 8, 526, .null, []),
  (17, 18, .iload_n 3, 3, 0, 0, .null, []),
  (18, 19, .iaload, 0, 0, 0, .null, []),
  (19, 20, .iload_n 1, 1, 0, 0, .null, []),
  (20, 23, .if_icmp .ne 7, 27, 0, 0, .null, []),
  (23, 24, .iconst 1, 0, 0, 0, .int (nI 1), []),
  (24, 27, .goto 4, 28, 0, 0, .null, []),
  (27, 28, .iconst 0, 0, 0, 0, .int (nI 0), []),
  (28, 29, .iadd, 0, 0, 0, .null, []),
  (29, 30, .istore_n 2, 2, 0, 0, .null, []),
  (30, 33, .iinc 3 1, 3, 0, 0, .int (nI 1), []),
  (33, 36, .goto (-29), 4, 0, 0, .null, []),
  (36, 37, .iload_n 2, 2, 0, 0, .null, []),
  (37, 38, .ireturn, 0, 0, 0, .null, [])]
def sm_t95 : List sm_I := [(0, 1, .iload_n 2, 2, 0, 0, .null, []),
  (1, 32, .tableswitch 58 0 3 #[31, 38, 45, 52], 59, 31, 0, .null, [((nI 0), 32), ((nI 1), 39), ((nI 2), 46), ((nI 3), 53)]),
  (32, 33, .aload_n 0, 0, 0, 0, .null, []),
  (33, 36, .getfield 13, 5, 4, 522, .null, []),
  (36, 37, .iload_n 1, 1, 0, 0, .null, []),
  (37, 38, .iaload, 0, 0, 0, .null, []),
  (38, 39, .ireturn, 0, 0, 0, .null, []),
  (39, 40, .aload_n 0, 0, 0, 0, .null, []),
  (40, 43, .getfield 16, 5, 5, 523, .null, []),
  (43, 44, .iload_n 1, 1, 0, 0, .null, []),
  (44, 45, .iaload, 0, 0, 0, .null, []),
  (45, 46, .ireturn, 0, 0, 0, .null, []),
  (46, 47, .aload_n 0, 0, 0, 0, .null, []),
  (47, 50, .getfield 19, 5, 6, 524, .null, []),
  (50, 51, .iload_n 1, 1, 0, 0, .null, []),
  (51, 52, .iaload, 0, 0, 0, .null, []),
  (52, 53, .ireturn, 0, 0, 0, .null, []),
  (53, 54, .aload_n 0, 0, 0, 0, .null, []),
  (54, 55, .iload_n 1, 1, 0, 0, .null, []),
  (55, 58, .invokevirtual 108, 94, 1, 670, .ref 5, []),
  (58, 59, .ireturn, 0, 0, 0, .null, []),
  (59, 60, .aload_n 0, 0, 0, 0, .null, []),
  (60, 63, .getfield 13, 5, 4, 522, .null, []),
  (63, 64, .iload_n 1, 1, 0, 0, .null, []),
  (64, 65, .iaload, 0, 0, 0, .null, []),
  (65, 66, .aload_n 0, 0, 0, 0, .null, []),
  (66, 69, .getfield 19, 5, 6, 524, .null, []),
  (69, 70, .iload_n 1, 1, 0, 0, .null, []),
  (70, 71, .iaload, 0, 0, 0, .null, []),
  (71, 72, .iconst 0, 0, 0, 0, .int (nI 0), []),
  (72, 73, .iload_n 2, 2, 0, 0, .null, []),
  (73, 75, .bipush 10, 0, 0, 0, .int (nI 10), []),
  (75, 76, .isub, 0, 0, 0, .null, []),
  (76, 79, .invokestatic 111, 92, 4, 674, .null, []),
  (79, 80, .ireturn, 0, 0, 0, .null, [])]
def sm_t96 : List sm_I := [(0, 1, .aload_n 0, 0, 0, 0, .null, []),
  (1, 2, .iload_n 1, 1, 0, 0, .null, []),
  (2, 5, .invokevirtual 115, 89, 1, 662, .ref 5, []),
  (5, 8, .ifCond .ne 8, 13, 0, 0, .null, []),
  (8, 10, .bipush (-101), 0, 0, 0, .int (-101), []),
  (10, 13, .goto 34, 44, 0, 0, .null, []),
  (13, 14, .iload_n 2, 2, 0, 0, .null, []),
  (14, 15, .iconst 0, 0, 0, 0, .int (nI 0), []),
  (15, 16, .iconst 3, 0, 0, 0, .int (nI 3), []),
  (16, 19, .invokestatic 69, 79, 3, 621, .null, []),
  (19, 22, .ifCond .ne 14, 33, 0, 0, .null, []),
  (22, 23, .iload_n 2, 2, 0, 0, .null, []),
  (23, 25, .bipush 10, 0, 0, 0, .int (nI 10), []),
  (25, 27, .bipush 13, 0, 0, 0, .int (nI 13), []),
  (27, 30, .invokestatic 69, 79, 3, 621, .null, []),
  (30, 33, .ifCond .eq 12, 42, 0, 0, .null, []),
  (33, 34, .aload_n 0, 0, 0, 0, .null, []),
  (34, 35, .iload_n 1, 1, 0, 0, .null, []),
  (35, 36, .iload_n 2, 2, 0, 0, .null, []),
  (36, 39, .invokevirtual 118, 95, 2, 666, .ref 5, []),
  (39, 42, .goto 5, 44, 0, 0, .null, []),
  (42, 44, .bipush (-102), 0, 0, 0, .int (-102), []),
  (44, 45, .ireturn, 0, 0, 0, .null, [])]
def sm_t97 : List sm_I := [(0, 1, .aload_n 0, 0, 0, 0, .null, []),
  (1, 2, .iload_n 1, 1, 0, 0, .null, []),
  (2, 5, .invokevirtual 115, 89, 1, 662, .ref 5, []),
  (5, 8, .ifCond .ne 6, 11, 0, 0, .null, []),
  (8, 10, .bipush (-101), 0, 0, 0, .int (-101), []),
  (10, 11, .ireturn, 0, 0, 0, .null, []),
  (11, 12, .iload_n 2, 2, 0, 0, .null, []),
  (12, 13, .iconst 0, 0, 0, 0, .int (nI 0), []),
  (13, 14, .iconst 4, 0, 0, 0, .int (nI 4), []),
  (14, 17, .invokestatic 69, 79, 3, 621, .null, []),
  (17, 20, .ifCond .ne 6, 23, 0, 0, .null, []),
  (20, 22, .bipush (-102), 0, 0, 0, .int (-102), []),
  (22, 23, .ireturn, 0, 0, 0, .null, []),
  (23, 24, .aload_n 0, 0, 0, 0, .null, []),
  (24, 27, .getfield 13, 5, 4, 522, .null, []),
  (27, 28, .iload_n 1, 1, 0, 0, .null, []),
  (28, 29, .iaload, 0, 0, 0, .null, []),
  (29, 30, .istore_n 3, 3, 0, 0, .null, []),
  (30, 31, .iload_n 2, 2, 0, 0, .null, []),
  (31, 34, .ifCond .eq 18, 49, 0, 0, .null, []),
  (34, 35, .iload_n 3, 3, 0, 0, .null, []),
  (35, 36, .iload_n 2, 2, 0, 0, .null, []),
  (36, 39, .if_icmp .eq 13, 49, 0, 0, .null, []),
  (39, 40, .iload_n 2, 2, 0, 0, .null, []),
  (40, 41, .iconst 3, 0, 0, 0, .int (nI 3), []),
  (41, 44, .if_icmp .ne 12, 53, 0, 0, .null, []),
  (44, 45, .iload_n 3, 3, 0, 0, .null, []),
  (45, 46, .iconst 4, 0, 0, 0, .int (nI 4), []),
  (46, 49, .if_icmp .ne 7, 53, 0, 0, .null, []),
  (49, 50, .iload_n 1, 1, 0, 0, .null, []),
  (50, 53, .goto 4, 54, 0, 0, .null, []),
  (53, 54, .iconst (-1), 0, 0, 0, .int (-1), []),
  (54, 55, .ireturn, 0, 0, 0, .null, [])]
def sm_t98 : List sm_I := [(0, 1, .aload_n 0, 0, 0, 0, .null, []),
  (1, 2, .iload_n 1, 1, 0, 0, .null, []),
  (2, 5, .invokevirtual 115, 89, 1, 662, .ref 5, []),
  (5, 8, .ifCond .ne 6, 11, 0, 0, .null, []),
  (8, 10, .bipush (-101), 0, 0, 0, .int (-101), []),
  (10, 11, .ireturn, 0, 0, 0, .null, []),
  (11, 12, .iload_n 2, 2, 0, 0, .null, []),
  (12, 15, .invokestatic 105, 80, 1, 655, .null, []),
  (15, 18, .ifCond .ne 6, 21, 0, 0, .null, []),
  (18, 20, .bipush (-102), 0, 0, 0, .int (-102), []),
  (20, 21, .ireturn, 0, 0, 0, .null, []),
  (21, 22, .aload_n 0, 0, 0, 0, .null, []),
  (22, 25, .getfield 19, 5, 6, 524, .null, []),
  (25, 26, .iload_n 1, 1, 0, 0, .null, []),
  (26, 27, .iaload, 0, 0, 0, .null, []),
  (27, 28, .istore_n 3, 3, 0, 0, .null, []),
  (28, 29, .aload_n 0, 0, 0, 0, .null, []),
  (29, 32, .getfield 19, 5, 6, 524, .null, []),
  (32, 33, .iload_n 1, 1, 0, 0, .null, []),
  (33, 34, .iload_n 2, 2, 0, 0, .null, []),
  (34, 35, .iastore, 0, 0, 0, .null, []),
  (35, 36, .iload_n 3, 3, 0, 0, .null, []),
  (36, 37, .ireturn, 0, 0, 0, .null, [])]
def sm_t99 : List sm_I := [(0, 1, .aload_n 0, 0, 0, 0, .null, []),
  (1, 2, .iload_n 1, 1, 0, 0, .null, []),
  (2, 5, .invokevirtual 115, 89, 1, 662, .ref 5, []),
  (5, 8, .ifCond .eq 11, 16, 0, 0, .null, []),
  (8, 9, .aload_n 0, 0, 0, 0, .null, []),
  (9, 10, .iload_n 2, 2, 0, 0, .null, []),
  (10, 13, .invokevirtual 97, 88, 1, 647, .ref 5, []),
  (13, 16, .ifCond .ne 6, 19, 0, 0, .null, []),
  (16, 18, .bipush (-101), 0, 0, 0, .int (-101), []),
  (18, 19, .ireturn, 0, 0, 0, .null, []),
  (19, 20, .iload_n 3, 3, 0, 0, .null, []),
  (20, 23, .invokestatic 105, 80, 1, 655, .null, []),
  (23, 26, .ifCond .ne 6, 29, 0, 0, .null, []),
  (26, 28, .bipush (-102), 0, 0, 0, .int (-102), []),
  (28, 29, .ireturn, 0, 0, 0, .null, []),
  (29, 30, .aload_n 0, 0, 0, 0, .null, []),
  (30, 33, .getfield 94, 5, 7, 525, .null, []),
  (33, 35, .bipush 10, 0, 0, 0, .int (nI 10), []),
  (35, 38, .if_icmp .ne 6, 41, 0, 0, .null, []),
  (38, 40, .bipush (-104), 0, 0, 0, .int (-104), []),
  (40, 41, .ireturn, 0, 0, 0, .null, []),
  (41, 42, .aload_n 0, 0, 0, 0, .null, []),
  (42, 45, .getfield 22, 5, 8, 526, .null, []),
  (45, 46, .aload_n 0, 0, 0, 0, .null, []),
  (46, 49, .getfield 94, 5, 7, 525, .null, []),
  (49, 50, .iload_n 1, 1, 0, 0, .null, []),
  (50, 51, .iastore, 0, 0, 0, .null, []),
  (51, 52, .aload_n 0, 0, 0, 0, .null, []),
  (52, 55, .getfield 25, 5, 9, 527, .null, []),
  (55, 56, .aload_n 0, 0, 0, 0, .null, []),
  (56, 59, .getfield 94, 5, 7, 525, .null, []),
  (59, 60, .iload_n 2, 2, 0, 0, .null, []),
  (60, 61, .iastore, 0, 0, 0, .null, []),
  (61, 62, .aload_n 0, 0, 0, 0, .null, []),
  (62, 65, .getfield 28, 5, 10, 528, .null, []),
  (65, 66, .aload_n 0, 0, 0, 0, .null, []),
  (66, 69, .getfield 94, 5, 7, 525, .null, []),
  (69, 70, .iload_n 3, 3, 0, 0, .null, []),
  (70, 71, .iastore, 0, 0, 0, .null, []),
  (71, 72, .aload_n 0, 0, 0, 0, .null, []),
  (72, 73, .dup, 0, 0, 0, .null, []),
  (73, 76, .getfield 94, 5, 7, 525, .null, []),
  (76, 77, .iconst 1, 0, 0, 0, .int (nI 1), []),
  (77, 78, .iadd, 0, 0, 0, .null, []),
  (78, 81, .putfield 94, 5, 7, 525, .int 0, []),
  (81, 82, .aload_n 0, 0, 0, 0, .null, []),
  (82, 85, .getfield 94, 5, 7, 525, .null, []),
  (85, 86, .ireturn, 0, 0, 0, .null, [])]
def sm_t100 : List sm_I := [(0, 1, .aload_n 0, 0, 0, 0, .null, []),
  (1, 4, .getfield 94, 5, 7, 525, .null, []),
  (4, 5, .istore_n 1, 1, 0, 0, .null, []),
  (5, 6, .aload_n 0, 0, 0, 0, .null, []),
  (6, 7, .iconst 0, 0, 0, 0, .int (nI 0), []),
  (7, 10, .putfield 94, 5, 7, 525, .int 0, []),
  (10, 11, .iload_n 1, 1, 0, 0, .null, []),
  (11, 12, .ireturn, 0, 0, 0, .null, [])]
def sm_t101 : List sm_I := [(0, 1, .iconst 0, 0, 0, 0, .int (nI 0), []),
  (1, 2, .istore_n 1, 1, 0, 0, .null, []),
  (2, 3, .iconst 0, 0, 0, 0, .int (nI 0), []),
  (3, 4, .istore_n 2, 2, 0, 0, .null, []),
  (4, 5, .iload_n 2, 2, 0, 0, .null, []),
  (5, 6, .aload_n 0, 0, 0, 0, .null, []),
  (6, 9, .getfield 85, 5, 1, 519, .null, []),
  (9, 12, .if_icmp .ge 27, 36, 0, 0, .null, []),
  (12, 13, .iload_n 1, 1, 0, 0, .null, []),
  (13, 14, .aload_n 0, 0, 0, 0, .null, []),
  (14, 17, .getfield 7, 5, 2, 520, .null, []),
  (17, 18, .iload_n 2, 2, 0, 0, .null, []),
  (18, 19, .iaload, 0, 0, 0, .null, []),
  (19, 20, .iconst (-1), 0, 0, 0, .int (-1), []),
  (20, 23, .if_icmp .ne 7, 27, 0, 0, .null, []),
  (23, 24, .iconst 1, 0, 0, 0, .int (nI 1), []),
  (24, 27, .goto 4, 28, 0, 0, .null, []),
  (27, 28, .iconst 0, 0, 0, 0, .int (nI 0), []),
  (28, 29, .iadd, 0, 0, 0, .null, []),
  (29, 30, .istore_n 1, 1, 0, 0, .null, []),
  (30, 33, .iinc 2 1, 2, 0, 0, .int (nI 1), []),
  (33, 36, .goto (-29), 4, 0, 0, .null, []),
  (36, 37, .iload_n 1, 1, 0, 0, .null, []),
  (37, 38, .ireturn, 0, 0, 0, .null, [])]
def sm_t102 : List sm_I := [(0, 1, .iconst 1, 0, 0, 0, .int (nI 1), []),
  (1, 2, .iconst 2, 0, 0, 0, .int (nI 2), []),
  (2, 3, .aload_n 0, 0, 0, 0, .null, []),
  (3, 6, .invokevirtual 121, 101, 0, 708, .ref 5, []),
  (6, 7, .imul, 0, 0, 0, .null, []),
  (7, 8, .ishl, 0, 0, 0, .null, []),
  (8, 9, .ireturn, 0, 0, 0, .null, [])]
def sm_t103 : List sm_I := [(0, 1, .iload_n 1, 1, 0, 0, .null, []),
  (1, 2, .istore_n 2, 2, 0, 0, .null, []),
  (2, 3, .iconst 0, 0, 0, 0, .int (nI 0), []),
  (3, 4, .istore_n 3, 3, 0, 0, .null, []),
  (4, 5, .iload_n 3, 3, 0, 0, .null, []),
  (5, 6, .aload_n 0, 0, 0, 0, .null, []),
  (6, 9, .getfield 85, 5, 1, 519, .null, []),
  (9, 12, .if_icmp .ge 62, 71, 0, 0, .null, []),
  (12, 13, .aload_n 0, 0, 0, 0, .null, []),
  (13, 16, .getfield 7, 5, 2, 520, .null, []),
  (16, 17, .iload_n 3, 3, 0, 0, .null, []),
  (17, 18, .iaload, 0, 0, 0, .null, []),
  (18, 19, .iconst (-1), 0, 0, 0, .int (-1), []),
  (19, 22, .if_icmp .eq 7, 26, 0, 0, .null, []),
  (22, 23, .iconst 1, 0, 0, 0, .int (nI 1), []),
  (23, 26, .goto 4, 27, 0, 0, .null, []),
  (26, 27, .iconst 0, 0, 0, 0, .int (nI 0), []),
  (27, 29, .istore 4, 4, 0, 0, .null, []),
  (29, 30, .aload_n 0, 0, 0, 0, .null, []),
  (30, 33, .getfield 35, 5, 14, 532, .null, []),
  (33, 34, .iload_n 3, 3, 0, 0, .null, []),
  (34, 36, .iload 4, 4, 0, 0, .null, []),
  (36, 39, .ifCond .eq 12, 48, 0, 0, .null, []),
  (39, 40, .aload_n 0, 0, 0, 0, .null, []),
  (40, 43, .getfield 7, 5, 2, 520, .null, []),
  (43, 44, .iload_n 3, 3, 0, 0, .null, []),
  (44, 45, .iaload, 0, 0, 0, .null, []),
  (45, 48, .goto 6, 51, 0, 0, .null, []),
  (48, 49, .iload_n 2, 2, 0, 0, .null, []),
  (49, 50, .iconst 4, 0, 0, 0, .int (nI 4), []),
  (50, 51, .irem, 0, 0, 0, .null, []),
  (51, 52, .iastore, 0, 0, 0, .null, []),
  (52, 53, .iload_n 2, 2, 0, 0, .null, []),
  (53, 55, .iload 4, 4, 0, 0, .null, []),
  (55, 58, .ifCond .eq 7, 62, 0, 0, .null, []),
  (58, 59, .iconst 1, 0, 0, 0, .int (nI 1), []),
  (59, 62, .goto 4, 63, 0, 0, .null, []),
  (62, 63, .iconst 4, 0, 0, 0, .int (nI 4), []),
  (63, 64, .idiv, 0, 0, 0, .null, []),
  (64, 65, .istore_n 2, 2, 0, 0, .null, []),
  (65, 68, .iinc 3 1, 3, 0, 0, .int (nI 1), []),
  (68, 71, .goto (-64), 4, 0, 0, .null, []),
  (71, 72, .iconst 0, 0, 0, 0, .int (nI 0), []),
  (72, 73, .istore_n 3, 3, 0, 0, .null, []),
  (73, 74, .iload_n 3, 3, 0, 0, .null, []),
  (74, 75, .aload_n 0, 0, 0, 0, .null, []),
  (75, 78, .getfield 91, 5, 3, 521, .null, []),
  (78, 81, .if_icmp .ge 14, 92, 0, 0, .null, []),
  (81, 82, .aload_n 0, 0, 0, 0, .null, []),
  (82, 83, .iload_n 3, 3, 0, 0, .null, []),
  (83, 86, .invokevirtual 124, 104, 1, 720, .ref 5, []),
  (86, 89, .iinc 3 1, 3, 0, 0, .int (nI 1), []),
  (89, 92, .goto (-16), 73, 0, 0, .null, []),
  (92, 93, .return_, 0, 0, 0, .null, [])]
def sm_t104 : List sm_I := [(0, 1, .aload_n 0, 0, 0, 0, .null, []),
  (1, 4, .getfield 16, 5, 5, 523, .null, []),
  (4, 5, .iload_n 1, 1, 0, 0, .null, []),
  (5, 6, .iaload, 0, 0, 0, .null, []),
  (6, 7, .istore_n 2, 2, 0, 0, .null, []),
  (7, 8, .iconst 0, 0, 0, 0, .int (nI 0), []),
  (8, 9, .istore_n 3, 3, 0, 0, .null, []),
  (9, 10, .iload_n 3, 3, 0, 0, .null, []),
  (10, 11, .aload_n 0, 0, 0, 0, .null, []),
  (11, 14, .getfield 85, 5, 1, 519, .null, []),
  (14, 17, .if_icmp .ge 44, 58, 0, 0, .null, []),
  (17, 18, .aload_n 0, 0, 0, 0, .null, []),
  (18, 21, .getfield 13, 5, 4, 522, .null, []),
  (21, 22, .iload_n 1, 1, 0, 0, .null, []),
  (22, 23, .iaload, 0, 0, 0, .null, []),
  (23, 24, .aload_n 0, 0, 0, 0, .null, []),
  (24, 27, .getfield 19, 5, 6, 524, .null, []),
  (27, 28, .iload_n 1, 1, 0, 0, .null, []),
  (28, 29, .iaload, 0, 0, 0, .null, []),
  (29, 30, .iload_n 2, 2, 0, 0, .null, []),
  (30, 31, .aload_n 0, 0, 0, 0, .null, []),
  (31, 34, .getfield 35, 5, 14, 532, .null, []),
  (34, 35, .iload_n 3, 3, 0, 0, .null, []),
  (35, 36, .iaload, 0, 0, 0, .null, []),
  (36, 39, .invokestatic 111, 92, 4, 674, .null, []),
  (39, 40, .istore_n 2, 2, 0, 0, .null, []),
  (40, 41, .aload_n 0, 0, 0, 0, .null, []),
  (41, 44, .getfield 38, 5, 15, 533, .null, []),
  (44, 46, .bipush 6, 0, 0, 0, .int (nI 6), []),
  (46, 47, .iload_n 1, 1, 0, 0, .null, []),
  (47, 48, .imul, 0, 0, 0, .null, []),
  (48, 49, .iload_n 3, 3, 0, 0, .null, []),
  (49, 50, .iadd, 0, 0, 0, .null, []),
  (50, 51, .iload_n 2, 2, 0, 0, .null, []),
  (51, 52, .iastore, 0, 0, 0, .null, []),
  (52, 55, .iinc 3 1, 3, 0, 0, .int (nI 1), []),
  (55, 58, .goto (-46), 9, 0, 0, .null, []),
  (58, 59, .return_, 0, 0, 0, .null, [])]
def sm_t105 : List sm_I := [(0, 1, .aload_n 0, 0, 0, 0, .null, []),
  (1, 2, .iload_n 1, 1, 0, 0, .null, []),
  (2, 5, .invokevirtual 128, 103, 1, 716, .ref 5, []),
  (5, 6, .iconst 1, 0, 0, 0, .int (nI 1), []),
  (6, 7, .istore_n 2, 2, 0, 0, .null, []),
  (7, 8, .iconst 0, 0, 0, 0, .int (nI 0), []),
  (8, 9, .istore_n 3, 3, 0, 0, .null, []),
  (9, 10, .iload_n 3, 3, 0, 0, .null, []),
  (10, 11, .aload_n 0, 0, 0, 0, .null, []),
  (11, 14, .getfield 94, 5, 7, 525, .null, []),
  (14, 17, .if_icmp .ge 49, 63, 0, 0, .null, []),
  (17, 18, .iload_n 2, 2, 0, 0, .null, []),
  (18, 21, .ifCond .eq 37, 55, 0, 0, .null, []),
  (21, 22, .aload_n 0, 0, 0, 0, .null, []),
  (22, 25, .getfield 38, 5, 15, 533, .null, []),
  (25, 27, .bipush 6, 0, 0, 0, .int (nI 6), []),
  (27, 28, .aload_n 0, 0, 0, 0, .null, []),
  (28, 31, .getfield 22, 5, 8, 526, .null, []),
  (31, 32, .iload_n 3, 3, 0, 0, .null, []),
  (32, 33, .iaload, 0, 0, 0, .null, []),
  (33, 34, .imul, 0, 0, 0, .null, []),
  (34, 35, .aload_n 0, 0, 0, 0, .null, []),
  (35, 38, .getfield 25, 5, 9, 527, .null, []),
  (38, 39, .iload_n 3, 3, 0, 0, .null, []),
  (39, 40, .iaload, 0, 0, 0, .null, []),
  (40, 41, .iadd, 0, 0, 0, .null, []),
  (41, 42, .iaload, 0, 0, 0, .null, []),
  (42, 43, .aload_n 0, 0, 0, 0, .null, []),
  (43, 46, .getfield 28, 5, 10, 528, .null, []),
  (46, 47, .iload_n 3, 3, 0, 0, .null, []),
  (47, 48, .iaload, 0, 0, 0, .null, []),
  (48, 51, .if_icmp .ne 7, 55, 0, 0, .null, []),
  (51, 52, .iconst 1, 0, 0, 0, .int (nI 1), []),
  (52, 55, .goto 4, 56, 0, 0, .null, []),
  (55, 56, .iconst 0, 0, 0, 0, .int (nI 0), []),
  (56, 57, .istore_n 2, 2, 0, 0, .null, []),
  (57, 60, .iinc 3 1, 3, 0, 0, .int (nI 1), []),
  (60, 63, .goto (-51), 9, 0, 0, .null, []),
  (63, 64, .iload_n 2, 2, 0, 0, .null, []),
  (64, 65, .ireturn, 0, 1, 0, .null, [])]
def sm_t106 : List sm_I := [(0, 1, .iconst 0, 0, 0, 0, .int (nI 0), []),
  (1, 2, .istore_n 1, 1, 0, 0, .null, []),
  (2, 3, .iconst 0, 0, 0, 0, .int (nI 0), []),
  (3, 4, .istore_n 2, 2, 0, 0, .null, []),
  (4, 5, .iload_n 2, 2, 0, 0, .null, []),
  (5, 6, .aload_n 0, 0, 0, 0, .null, []),
  (6, 9, .invokevirtual 131, 102, 0, 704, .ref 5, []),
  (9, 12, .if_icmp .ge 25, 34, 0, 0, .null, []),
  (12, 13, .iload_n 1, 1, 0, 0, .null, []),
  (13, 14, .aload_n 0, 0, 0, 0, .null, []),
  (14, 15, .iload_n 2, 2, 0, 0, .null, []),
  (15, 18, .invokevirtual 134, 105, 1, 712, .ref 5, []),
  (18, 21, .ifCond .eq 7, 25, 0, 0, .null, []),
  (21, 22, .iconst 1, 0, 0, 0, .int (nI 1), []),
  (22, 25, .goto 4, 26, 0, 0, .null, []),
  (25, 26, .iconst 0, 0, 0, 0, .int (nI 0), []),
  (26, 27, .iadd, 0, 0, 0, .null, []),
  (27, 28, .istore_n 1, 1, 0, 0, .null, []),
  (28, 31, .iinc 2 1, 2, 0, 0, .int (nI 1), []),
  (31, 34, .goto (-27), 4, 0, 0, .null, []),
  (34, 35, .iload_n 1, 1, 0, 0, .null, []),
  (35, 36, .ireturn, 0, 0, 0, .null, [])]
def sm_t107 : List sm_I := [(0, 1, .aload_n 0, 0, 0, 0, .null, []),
  (1, 4, .getfield 85, 5, 1, 519, .null, []),
  (4, 7, .ifCond .ne 8, 12, 0, 0, .null, []),
  (7, 9, .bipush (-103), 0, 0, 0, .int (-103), []),
  (9, 12, .goto 7, 16, 0, 0, .null, []),
  (12, 13, .aload_n 0, 0, 0, 0, .null, []),
  (13, 16, .invokevirtual 137, 106, 0, 700, .ref 5, []),
  (16, 17, .ireturn, 0, 0, 0, .null, [])]
def sm_t108 : List sm_I := [(0, 1, .iconst 0, 0, 0, 0, .int (nI 0), []),
  (1, 2, .istore_n 3, 3, 0, 0, .null, []),
  (2, 3, .iconst 0, 0, 0, 0, .int (nI 0), []),
  (3, 5, .istore 4, 4, 0, 0, .null, []),
  (5, 7, .iload 4, 4, 0, 0, .null, []),
  (7, 8, .aload_n 0, 0, 0, 0, .null, []),
  (8, 11, .invokevirtual 131, 102, 0, 704, .ref 5, []),
  (11, 14, .if_icmp .ge 38, 49, 0, 0, .null, []),
  (14, 15, .iload_n 3, 3, 0, 0, .null, []),
  (15, 16, .aload_n 0, 0, 0, 0, .null, []),
  (16, 18, .iload 4, 4, 0, 0, .null, []),
  (18, 21, .invokevirtual 134, 105, 1, 712, .ref 5, []),
  (21, 24, .ifCond .eq 19, 40, 0, 0, .null, []),
  (24, 25, .iconst 1, 0, 0, 0, .int (nI 1), []),
  (25, 26, .aload_n 0, 0, 0, 0, .null, []),
  (26, 29, .getfield 38, 5, 15, 533, .null, []),
  (29, 31, .bipush 6, 0, 0, 0, .int (nI 6), []),
  (31, 32, .iload_n 1, 1, 0, 0, .null, []),
  (32, 33, .imul, 0, 0, 0, .null, []),
  (33, 34, .iload_n 2, 2, 0, 0, .null, []),
  (34, 35, .iadd, 0, 0, 0, .null, []),
  (35, 36, .iaload, 0, 0, 0, .null, []),
  (36, 37, .ishl, 0, 0, 0, .null, []),
  (37, 40, .goto 4, 41, 0, 0, .null, []),
  (40, 41, .iconst 0, 0, 0, 0, .int (nI 0), []),
  (41, 42, .ior, 0, 0, 0, .null, []),
  (42, 43, .istore_n 3, 3, 0, 0, .null, []),
  (43, 46, .iinc 4 1, 4, 0, 0, .int (nI 1), []),
  (46, 49, .goto (-41), 5, 0, 0, .null, []),
  (49, 50, .iload_n 3, 3, 0, 0, .null, []),
  (50, 51, .ireturn, 0, 0, 0, .null, [])]
def sm_t109 : List sm_I := [(0, 1, .aload_n 0, 0, 0, 0, .null, []),
  (1, 2, .iload_n 1, 1, 0, 0, .null, []),
  (2, 5, .invokevirtual 115, 89, 1, 662, .ref 5, []),
  (5, 8, .ifCond .eq 20, 25, 0, 0, .null, []),
  (8, 9, .aload_n 0, 0, 0, 0, .null, []),
  (9, 10, .iload_n 2, 2, 0, 0, .null, []),
  (10, 13, .invokevirtual 97, 88, 1, 647, .ref 5, []),
  (13, 16, .ifCond .eq 12, 25, 0, 0, .null, []),
  (16, 17, .aload_n 0, 0, 0, 0, .null, []),
  (17, 18, .iload_n 1, 1, 0, 0, .null, []),
  (18, 19, .iload_n 2, 2, 0, 0, .null, []),
  (19, 22, .invokevirtual 140, 108, 2, 728, .ref 5, []),
  (22, 25, .goto 5, 27, 0, 0, .null, []),
  (25, 27, .bipush (-101), 0, 0, 0, .int (-101), []),
  (27, 28, .ireturn, 0, 0, 0, .null, [])]
def sm_t110 : List sm_I := [(0, 1, .iconst 0, 0, 0, 0, .int (nI 0), []),
  (1, 2, .istore_n 2, 2, 0, 0, .null, []),
  (2, 3, .iconst 0, 0, 0, 0, .int (nI 0), []),
  (3, 4, .istore_n 3, 3, 0, 0, .null, []),
  (4, 5, .iload_n 3, 3, 0, 0, .null, []),
  (5, 6, .aload_n 0, 0, 0, 0, .null, []),
  (6, 9, .invokevirtual 131, 102, 0, 704, .ref 5, []),
  (9, 12, .if_icmp .ge 32, 41, 0, 0, .null, []),
  (12, 13, .iload_n 2, 2, 0, 0, .null, []),
  (13, 14, .aload_n 0, 0, 0, 0, .null, []),
  (14, 15, .iload_n 3, 3, 0, 0, .null, []),
  (15, 18, .invokevirtual 134, 105, 1, 712, .ref 5, []),
  (18, 21, .ifCond .eq 14, 32, 0, 0, .null, []),
  (21, 22, .iconst 1, 0, 0, 0, .int (nI 1), []),
  (22, 23, .aload_n 0, 0, 0, 0, .null, []),
  (23, 26, .getfield 35, 5, 14, 532, .null, []),
  (26, 27, .iload_n 1, 1, 0, 0, .null, []),
  (27, 28, .iaload, 0, 0, 0, .null, []),
  (28, 29, .ishl, 0, 0, 0, .null, []),
  (29, 32, .goto 4, 33, 0, 0, .null, []),
  (32, 33, .iconst 0, 0, 0, 0, .int (nI 0), []),
  (33, 34, .ior, 0, 0, 0, .null, []),
  (34, 35, .istore_n 2, 2, 0, 0, .null, []),
  (35, 38, .iinc 3 1, 3, 0, 0, .int (nI 1), []),
  (38, 41, .goto (-34), 4, 0, 0, .null, []),
  (41, 42, .iload_n 2, 2, 0, 0, .null, []),
  (42, 43, .ireturn, 0, 0, 0, .null, [])]
def sm_t111 : List sm_I := [(0, 1, .aload_n 0, 0, 0, 0, .null, []),
  (1, 2, .iload_n 1, 1, 0, 0, .null, []),
  (2, 5, .invokevirtual 97, 88, 1, 647, .ref 5, []),
  (5, 8, .ifCond .eq 11, 16, 0, 0, .null, []),
  (8, 9, .aload_n 0, 0, 0, 0, .null, []),
  (9, 10, .iload_n 1, 1, 0, 0, .null, []),
  (10, 13, .invokevirtual 143, 110, 1, 736, .ref 5, []),
  (13, 16, .goto 5, 18, 0, 0, .null, []),
  (16, 18, .bipush (-101), 0, 0, 0, .int (-101), []),
  (18, 19, .ireturn, 0, 0, 0, .null, [])]
def sm_t112 : List sm_I := [(0, 1, .iconst 0, 0, 0, 0, .int (nI 0), []),
  (1, 2, .istore_n 1, 1, 0, 0, .null, []),
  (2, 3, .iconst 0, 0, 0, 0, .int (nI 0), []),
  (3, 4, .istore_n 2, 2, 0, 0, .null, []),
  (4, 5, .iload_n 2, 2, 0, 0, .null, []),
  (5, 7, .bipush 96, 0, 0, 0, .int (nI 96), []),
  (7, 10, .if_icmp .ge 16, 23, 0, 0, .null, []),
  (10, 11, .aload_n 0, 0, 0, 0, .null, []),
  (11, 14, .getfield 41, 5, 16, 534, .null, []),
  (14, 15, .iload_n 2, 2, 0, 0, .null, []),
  (15, 16, .iconst 0, 0, 0, 0, .int (nI 0), []),
  (16, 17, .iastore, 0, 0, 0, .null, []),
  (17, 20, .iinc 2 1, 2, 0, 0, .int (nI 1), []),
  (20, 23, .goto (-16), 4, 0, 0, .null, []),
  (23, 24, .iconst 0, 0, 0, 0, .int (nI 0), []),
  (24, 25, .istore_n 2, 2, 0, 0, .null, []),
  (25, 26, .iload_n 2, 2, 0, 0, .null, []),
  (26, 27, .aload_n 0, 0, 0, 0, .null, []),
  (27, 30, .invokevirtual 131, 102, 0, 704, .ref 5, []),
  (30, 33, .if_icmp .ge 74, 104, 0, 0, .null, []),
  (33, 34, .aload_n 0, 0, 0, 0, .null, []),
  (34, 35, .iload_n 2, 2, 0, 0, .null, []),
  (35, 38, .invokevirtual 134, 105, 1, 712, .ref 5, []),
  (38, 41, .ifCond .eq 60, 98, 0, 0, .null, []),
  (41, 44, .iinc 1 1, 1, 0, 0, .int (nI 1), []),
  (44, 45, .iconst 0, 0, 0, 0, .int (nI 0), []),
  (45, 46, .istore_n 3, 3, 0, 0, .null, []),
  (46, 47, .iload_n 3, 3, 0, 0, .null, []),
  (47, 49, .bipush 6, 0, 0, 0, .int (nI 6), []),
  (49, 50, .aload_n 0, 0, 0, 0, .null, []),
  (50, 53, .getfield 91, 5, 3, 521, .null, []),
  (53, 54, .imul, 0, 0, 0, .null, []),
  (54, 57, .if_icmp .ge 44, 98, 0, 0, .null, []),
  (57, 58, .aload_n 0, 0, 0, 0, .null, []),
  (58, 61, .getfield 41, 5, 16, 534, .null, []),
  (61, 63, .bipush 24, 0, 0, 0, .int (nI 24), []),
  (63, 64, .aload_n 0, 0, 0, 0, .null, []),
  (64, 67, .getfield 38, 5, 15, 533, .null, []),
  (67, 68, .iload_n 3, 3, 0, 0, .null, []),
  (68, 69, .iaload, 0, 0, 0, .null, []),
  (69, 70, .imul, 0, 0, 0, .null, []),
  (70, 71, .iload_n 3, 3, 0, 0, .null, []),
  (71, 72, .iadd, 0, 0, 0, .null, []),
  (72, 73, .dup2, 0, 0, 0, .null, []),
  (73, 74, .iaload, 0, 0, 0, .null, []),
  (74, 75, .iload_n 3, 3, 0, 0, .null, []),
  (75, 77, .bipush 6, 0, 0, 0, .int (nI 6), []),
  (77, 78, .irem, 0, 0, 0, .null, []),
  (78, 79, .aload_n 0, 0, 0, 0, .null, []),
  (79, 82, .getfield 85, 5, 1, 519, .null, []),
  (82, 85, .if_icmp .ge 7, 89, 0, 0, .null, []),
  (85, 86, .iconst 1, 0, 0, 0, .int (nI 1), []),
  (86, 89, .goto 4, 90, 0, 0, .null, []),
  (89, 90, .iconst 0, 0, 0, 0, .int (nI 0), []),
  (90, 91, .iadd, 0, 0, 0, .null, []),
  (91, 92, .iastore, 0, 0, 0, .null, []),
  (92, 95, .iinc 3 1, 3, 0, 0, .int (nI 1), []),
  (95, 98, .goto (-49), 46, 0, 0, .null, []),
  (98, 101, .iinc 2 1, 2, 0, 0, .int (nI 1), []),
  (101, 104, .goto (-76), 25, 0, 0, .null, []),
  (104, 105, .iload_n 1, 1, 0, 0, .null, []),
  (105, 106, .ireturn, 0, 0, 0, .null, [])]
def sm_t113 : List sm_I := [(0, 1, .iconst 0, 0, 0, 0, .int (nI 0), []),
  (1, 2, .istore_n 2, 2, 0, 0, .null, []),
  (2, 3, .iconst 0, 0, 0, 0, .int (nI 0), []),
  (3, 4, .istore_n 3, 3, 0, 0, .null, []),
  (4, 5, .iload_n 3, 3, 0, 0, .null, []),
  (5, 6, .iconst 4, 0, 0, 0, .int (nI 4), []),
  (6, 9, .if_icmp .ge 40, 46, 0, 0, .null, []),
  (9, 10, .aload_n 0, 0, 0, 0, .null, []),
  (10, 13, .getfield 41, 5, 16, 534, .null, []),
  (13, 15, .bipush 24, 0, 0, 0, .int (nI 24), []),
  (15, 16, .iload_n 3, 3, 0, 0, .null, []),
  (16, 17, .imul, 0, 0, 0, .null, []),
  (17, 18, .iload_n 1, 1, 0, 0, .null, []),
  (18, 19, .iadd, 0, 0, 0, .null, []),
  (19, 20, .iaload, 0, 0, 0, .null, []),
  (20, 21, .iload_n 2, 2, 0, 0, .null, []),
  (21, 24, .if_icmp .le 17, 38, 0, 0, .null, []),
  (24, 25, .aload_n 0, 0, 0, 0, .null, []),
  (25, 28, .getfield 41, 5, 16, 534, .null, []),
  (28, 30, .bipush 24, 0, 0, 0, .int (nI 24), []),
  (30, 31, .iload_n 3, 3, 0, 0, .null, []),
  (31, 32, .imul, 0, 0, 0, .null, []),
  (32, 33, .iload_n 1, 1, 0, 0, .null, []),
  (33, 34, .iadd, 0, 0, 0, .null, []),
  (34, 35, .iaload, 0, 0, 0, .null, []),
  (35, 38, .goto 4, 39, 0, 0, .null, []),
  (38, 39, .iload_n 2, 2, 0, 0, .null, []),
  (39, 40, .istore_n 2, 2, 0, 0, .null, []),
  (40, 43, .iinc 3 1, 3, 0, 0, .int (nI 1), []),
  (43, 46, .goto (-39), 4, 0, 0, .null, []),
  (46, 47, .iload_n 2, 2, 0, 0, .null, []),
  (47, 48, .ireturn, 0, 0, 0, .null, [])]
def sm_t114 : List sm_I := [(0, 1, .aload_n 0, 0, 0, 0, .null, []),
  (1, 4, .invokevirtual 146, 112, 0, 752, .ref 5, []),
  (4, 7, .ifCond .ne 5, 9, 0, 0, .null, []),
  (7, 8, .iconst (-1), 0, 0, 0, .int (-1), []),
  (8, 9, .ireturn, 0, 0, 0, .null, []),
  (9, 10, .iconst (-1), 0, 0, 0, .int (-1), []),
  (10, 11, .istore_n 2, 2, 0, 0, .null, []),
  (11, 14, .sipush 8192, 0, 0, 0, .int (nI 8192), []),
  (14, 15, .istore_n 3, 3, 0, 0, .null, []),
  (15, 16, .iconst 0, 0, 0, 0, .int (nI 0), []),
  (16, 18, .istore 4, 4, 0, 0, .null, []),
  (18, 20, .iload 4, 4, 0, 0, .null, []),
  (20, 22, .bipush 6, 0, 0, 0, .int (nI 6), []),
  (22, 23, .aload_n 0, 0, 0, 0, .null, []),
  (23, 26, .getfield 91, 5, 3, 521, .null, []),
  (26, 27, .imul, 0, 0, 0, .null, []),
  (27, 30, .if_icmp .ge 61, 88, 0, 0, .null, []),
  (30, 32, .iload 4, 4, 0, 0, .null, []),
  (32, 34, .bipush 6, 0, 0, 0, .int (nI 6), []),
  (34, 35, .irem, 0, 0, 0, .null, []),
  (35, 36, .aload_n 0, 0, 0, 0, .null, []),
  (36, 39, .getfield 85, 5, 1, 519, .null, []),
  (39, 42, .if_icmp .ge 12, 51, 0, 0, .null, []),
  (42, 43, .aload_n 0, 0, 0, 0, .null, []),
  (43, 45, .iload 4, 4, 0, 0, .null, []),
  (45, 48, .invokevirtual 149, 113, 1, 756, .ref 5, []),
  (48, 51, .goto 6, 54, 0, 0, .null, []),
  (51, 54, .sipush 8192, 0, 0, 0, .int (nI 8192), []),
  (54, 56, .istore 5, 5, 0, 0, .null, []),
  (56, 58, .iload 5, 5, 0, 0, .null, []),
  (58, 59, .iload_n 3, 3, 0, 0, .null, []),
  (59, 62, .if_icmp .ge 8, 67, 0, 0, .null, []),
  (62, 64, .iload 4, 4, 0, 0, .null, []),
  (64, 67, .goto 4, 68, 0, 0, .null, []),
  (67, 68, .iload_n 2, 2, 0, 0, .null, []),
  (68, 69, .istore_n 2, 2, 0, 0, .null, []),
  (69, 71, .iload 5, 5, 0, 0, .null, []),
  (71, 72, .iload_n 3, 3, 0, 0, .null, []),
  (72, 75, .if_icmp .ge 8, 80, 0, 0, .null, []),
  (75, 77, .iload 5, 5, 0, 0, .null, []),
  (77, 80, .goto 4, 81, 0, 0, .null, []),
  (80, 81, .iload_n 3, 3, 0, 0, .null, []),
  (81, 82, .istore_n 3, 3, 0, 0, .null, []),
  (82, 85, .iinc 4 1, 4, 0, 0, .int (nI 1), []),
  (85, 88, .goto (-67), 18, 0, 0, .null, []),
  (88, 89, .iload_n 1, 1, 0, 0, .null, []),
  (89, 92, .ifCond .ne 10, 99, 0, 0, .null, []),
  (92, 93, .iload_n 2, 2, 0, 0, .null, []),
  (93, 95, .bipush 6, 0, 0, 0, .int (nI 6), []),
  (95, 96, .idiv, 0, 0, 0, .null, []),
  (96, 99, .goto 16, 112, 0, 0, .null, []),
  (99, 100, .iload_n 1, 1, 0, 0, .null, []),
  (100, 101, .iconst 1, 0, 0, 0, .int (nI 1), []),
  (101, 104, .if_icmp .ne 10, 111, 0, 0, .null, []),
  (104, 105, .iload_n 2, 2, 0, 0, .null, []),
  (105, 107, .bipush 6, 0, 0, 0, .int (nI 6), []),
  (107, 108, .irem, 0, 0, 0, .null, []),
  (108, 111, .goto 4, 112, 0, 0, .null, []),
  (111, 112, .iload_n 3, 3, 0, 0, .null, []),
  (112, 113, .ireturn, 0, 0, 0, .null, [])]
def sm_t115 : List sm_I := [(0, 1, .aload_n 0, 0, 0, 0, .null, []),
  (1, 4, .getfield 91, 5, 3, 521, .null, []),
  (4, 7, .ifCond .le 16, 20, 0, 0, .null, []),
  (7, 8, .aload_n 0, 0, 0, 0, .null, []),
  (8, 11, .getfield 152, 5, 11, 529, .null, []),
  (11, 13, .bipush 30, 0, 0, 0, .int (nI 30), []),
  (13, 16, .if_icmp .ge 7, 20, 0, 0, .null, []),
  (16, 17, .iconst 1, 0, 0, 0, .int (nI 1), []),
  (17, 20, .goto 4, 21, 0, 0, .null, []),
  (20, 21, .iconst 0, 0, 0, 0, .int (nI 0), []),
  (21, 22, .ireturn, 0, 1, 0, .null, [])]
def sm_t116 : List sm_I := [(0, 1, .iload_n 1, 1, 0, 0, .null, []),
  (1, 2, .iconst 0, 0, 0, 0, .int (nI 0), []),
  (2, 3, .iconst 2, 0, 0, 0, .int (nI 2), []),
  (3, 6, .invokestatic 69, 79, 3, 621, .null, []),
  (6, 9, .ifCond .ne 6, 12, 0, 0, .null, []),
  (9, 11, .bipush (-102), 0, 0, 0, .int (-102), []),
  (11, 12, .ireturn, 0, 0, 0, .null, []),
  (12, 13, .aload_n 0, 0, 0, 0, .null, []),
  (13, 16, .invokevirtual 155, 115, 0, 744, .ref 5, []),
  (16, 19, .ifCond .ne 6, 22, 0, 0, .null, []),
  (19, 21, .bipush (-103), 0, 0, 0, .int (-103), []),
  (21, 22, .ireturn, 0, 0, 0, .null, []),
  (22, 23, .aload_n 0, 0, 0, 0, .null, []),
  (23, 24, .dup, 0, 0, 0, .null, []),
  (24, 27, .getfield 152, 5, 11, 529, .null, []),
  (27, 28, .iconst 1, 0, 0, 0, .int (nI 1), []),
  (28, 29, .iadd, 0, 0, 0, .null, []),
  (29, 32, .putfield 152, 5, 11, 529, .int 0, []),
  (32, 33, .aload_n 0, 0, 0, 0, .null, []),
  (33, 34, .iload_n 1, 1, 0, 0, .null, []),
  (34, 37, .invokevirtual 159, 114, 1, 748, .ref 5, []),
  (37, 38, .ireturn, 0, 0, 0, .null, [])]
def sm_t117 : List sm_I := [(0, 1, .lconst 1, 0, 0, 0, .long (lN 1), []),
  (1, 2, .lstore_n 2, 2, 0, 0, .null, []),
  (2, 3, .iconst 0, 0, 0, 0, .int (nI 0), []),
  (3, 5, .istore 4, 4, 0, 0, .null, []),
  (5, 7, .iload 4, 4, 0, 0, .null, []),
  (7, 8, .aload_n 0, 0, 0, 0, .null, []),
  (8, 11, .getfield 91, 5, 3, 521, .null, []),
  (11, 14, .if_icmp .ge 62, 73, 0, 0, .null, []),
  (14, 15, .iconst 0, 0, 0, 0, .int (nI 0), []),
  (15, 17, .istore 5, 5, 0, 0, .null, []),
  (17, 19, .iload 5, 5, 0, 0, .null, []),
  (19, 20, .aload_n 0, 0, 0, 0, .null, []),
  (20, 23, .getfield 85, 5, 1, 519, .null, []),
  (23, 26, .if_icmp .ge 44, 67, 0, 0, .null, []),
  (26, 27, .iload_n 1, 1, 0, 0, .null, []),
  (27, 29, .iload 4, 4, 0, 0, .null, []),
  (29, 30, .ishr, 0, 0, 0, .null, []),
  (30, 31, .iconst 1, 0, 0, 0, .int (nI 1), []),
  (31, 32, .iand, 0, 0, 0, .null, []),
  (32, 33, .iconst 1, 0, 0, 0, .int (nI 1), []),
  (33, 36, .if_icmp .ne 26, 59, 0, 0, .null, []),
  (36, 39, .ldc2_w 162, 0, 0, 779, .long (lN 4), []),
  (39, 40, .lload_n 2, 2, 0, 0, .null, []),
  (40, 41, .lmul, 0, 0, 0, .null, []),
  (41, 42, .aload_n 0, 0, 0, 0, .null, []),
  (42, 45, .getfield 38, 5, 15, 533, .null, []),
  (45, 47, .bipush 6, 0, 0, 0, .int (nI 6), []),
  (47, 49, .iload 4, 4, 0, 0, .null, []),
  (49, 50, .imul, 0, 0, 0, .null, []),
  (50, 52, .iload 5, 5, 0, 0, .null, []),
  (52, 53, .iadd, 0, 0, 0, .null, []),
  (53, 54, .iaload, 0, 0, 0, .null, []),
  (54, 55, .i2l, 0, 0, 0, .null, []),
  (55, 56, .ladd, 0, 0, 0, .null, []),
  (56, 59, .goto 4, 60, 0, 0, .null, []),
  (59, 60, .lload_n 2, 2, 0, 0, .null, []),
  (60, 61, .lstore_n 2, 2, 0, 0, .null, []),
  (61, 64, .iinc 5 1, 5, 0, 0, .int (nI 1), []),
  (64, 67, .goto (-47), 17, 0, 0, .null, []),
  (67, 70, .iinc 4 1, 4, 0, 0, .int (nI 1), []),
  (70, 73, .goto (-65), 5, 0, 0, .null, []),
  (73, 74, .lload_n 2, 2, 0, 0, .null, []),
  (74, 75, .lreturn, 0, 0, 0, .null, [])]
def sm_t118 : List sm_I := [(0, 1, .lload_n 1, 1, 0, 0, .null, []),
  (1, 4, .ldc2_w 164, 0, 0, 784, .long (lN 2654435761), []),
  (4, 5, .lmul, 0, 0, 0, .null, []),
  (5, 7, .bipush 13, 0, 0, 0, .int (nI 13), []),
  (7, 8, .lshr, 0, 0, 0, .null, []),
  (8, 11, .ldc2_w 166, 0, 0, 785, .long (lN 8191), []),
  (11, 12, .land, 0, 0, 0, .null, []),
  (12, 13, .l2i, 0, 0, 0, .null, []),
  (13, 14, .istore_n 3, 3, 0, 0, .null, []),
  (14, 15, .aload_n 0, 0, 0, 0, .null, []),
  (15, 18, .getfield 51, 5, 19, 537, .null, []),
  (18, 19, .iload_n 3, 3, 0, 0, .null, []),
  (19, 20, .iaload, 0, 0, 0, .null, []),
  (20, 21, .aload_n 0, 0, 0, 0, .null, []),
  (21, 24, .getfield 168, 5, 20, 538, .null, []),
  (24, 27, .if_icmp .ne 25, 49, 0, 0, .null, []),
  (27, 28, .aload_n 0, 0, 0, 0, .null, []),
  (28, 31, .getfield 44, 5, 17, 535, .null, []),
  (31, 32, .iload_n 3, 3, 0, 0, .null, []),
  (32, 33, .laload, 0, 0, 0, .null, []),
  (33, 34, .lload_n 1, 1, 0, 0, .null, []),
  (34, 35, .lcmp, 0, 0, 0, .null, []),
  (35, 38, .ifCond .eq 14, 49, 0, 0, .null, []),
  (38, 39, .iload_n 3, 3, 0, 0, .null, []),
  (39, 40, .iconst 1, 0, 0, 0, .int (nI 1), []),
  (40, 41, .iadd, 0, 0, 0, .null, []),
  (41, 44, .sipush 8192, 0, 0, 0, .int (nI 8192), []),
  (44, 45, .irem, 0, 0, 0, .null, []),
  (45, 46, .istore_n 3, 3, 0, 0, .null, []),
  (46, 49, .goto (-32), 14, 0, 0, .null, []),
  (49, 50, .iload_n 3, 3, 0, 0, .null, []),
  (50, 51, .ireturn, 0, 0, 0, .null, [])]
def sm_t119 : List sm_I := [(0, 1, .aload_n 0, 0, 0, 0, .null, []),
  (1, 2, .dup, 0, 0, 0, .null, []),
  (2, 5, .getfield 168, 5, 20, 538, .null, []),
  (5, 6, .iconst 1, 0, 0, 0, .int (nI 1), []),
  (6, 7, .iadd, 0, 0, 0, .null, []),
  (7, 10, .putfield 168, 5, 20, 538, .int 0, []),
  (10, 11, .iconst 1, 0, 0, 0, .int (nI 1), []),
  (11, 12, .istore_n 3, 3, 0, 0, .null, []),
  (12, 13, .iconst 0, 0, 0, 0, .int (nI 0), []),
  (13, 15, .istore 4, 4, 0, 0, .null, []),
  (15, 17, .iload 4, 4, 0, 0, .null, []),
  (17, 18, .aload_n 0, 0, 0, 0, .null, []),
  (18, 21, .invokevirtual 131, 102, 0, 704, .ref 5, []),
  (21, 24, .if_icmp .ge 106, 127, 0, 0, .null, []),
  (24, 25, .iload_n 3, 3, 0, 0, .null, []),
  (25, 28, .ifCond .eq 102, 127, 0, 0, .null, []),
  (28, 29, .aload_n 0, 0, 0, 0, .null, []),
  (29, 31, .iload 4, 4, 0, 0, .null, []),
  (31, 34, .invokevirtual 134, 105, 1, 712, .ref 5, []),
  (34, 37, .ifCond .eq 87, 121, 0, 0, .null, []),
  (37, 38, .aload_n 0, 0, 0, 0, .null, []),
  (38, 39, .iload_n 1, 1, 0, 0, .null, []),
  (39, 42, .invokevirtual 171, 117, 1, 775, .ref 5, []),
  (42, 44, .lstore 5, 5, 0, 0, .null, []),
  (44, 45, .aload_n 0, 0, 0, 0, .null, []),
  (45, 47, .lload 5, 5, 0, 0, .null, []),
  (47, 50, .invokevirtual 175, 118, 1, 780, .ref 5, []),
  (50, 52, .istore 7, 7, 0, 0, .null, []),
  (52, 53, .aload_n 0, 0, 0, 0, .null, []),
  (53, 56, .getfield 51, 5, 19, 537, .null, []),
  (56, 58, .iload 7, 7, 0, 0, .null, []),
  (58, 59, .iaload, 0, 0, 0, .null, []),
  (59, 60, .aload_n 0, 0, 0, 0, .null, []),
  (60, 63, .getfield 168, 5, 20, 538, .null, []),
  (63, 66, .if_icmp .ne 19, 82, 0, 0, .null, []),
  (66, 67, .aload_n 0, 0, 0, 0, .null, []),
  (67, 70, .getfield 48, 5, 18, 536, .null, []),
  (70, 72, .iload 7, 7, 0, 0, .null, []),
  (72, 73, .iaload, 0, 0, 0, .null, []),
  (73, 74, .aload_n 0, 0, 0, 0, .null, []),
  (74, 77, .getfield 35, 5, 14, 532, .null, []),
  (77, 78, .iload_n 2, 2, 0, 0, .null, []),
  (78, 79, .iaload, 0, 0, 0, .null, []),
  (79, 82, .if_icmp .ne 7, 86, 0, 0, .null, []),
  (82, 83, .iconst 1, 0, 0, 0, .int (nI 1), []),
  (83, 86, .goto 4, 87, 0, 0, .null, []),
  (86, 87, .iconst 0, 0, 0, 0, .int (nI 0), []),
  (87, 88, .istore_n 3, 3, 0, 0, .null, []),
  (88, 89, .aload_n 0, 0, 0, 0, .null, []),
  (89, 92, .getfield 51, 5, 19, 537, .null, []),
  (92, 94, .iload 7, 7, 0, 0, .null, []),
  (94, 95, .aload_n 0, 0, 0, 0, .null, []),
  (95, 98, .getfield 168, 5, 20, 538, .null, []),
  (98, 99, .iastore, 0, 0, 0, .null, []),
  (99, 100, .aload_n 0, 0, 0, 0, .null, []),
  (100, 103, .getfield 44, 5, 17, 535, .null, []),
  (103, 105, .iload 7, 7, 0, 0, .null, []),
  (105, 107, .lload 5, 5, 0, 0, .null, []),
  (107, 108, .lastore, 0, 0, 0, .null, []),
  (108, 109, .aload_n 0, 0, 0, 0, .null, []),
  (109, 112, .getfield 48, 5, 18, 536, .null, []),
  (112, 114, .iload 7, 7, 0, 0, .null, []),
  (114, 115, .aload_n 0, 0, 0, 0, .null, []),
  (115, 118, .getfield 35, 5, 14, 532, .null, []),
  (118, 119, .iload_n 2, 2, 0, 0, .null, []),
  (119, 120, .iaload, 0, 0, 0, .null, []),
  (120, 121, .iastore, 0, 0, 0, .null, []),
  (121, 124, .iinc 4 1, 4, 0, 0, .int (nI 1), []),
  (124, 127, .goto (-109), 15, 0, 0, .null, []),
  (127, 128, .iload_n 3, 3, 0, 0, .null, []),
  (128, 129, .ireturn, 0, 1, 0, .null, [])]
def sm_t120 : List sm_I := [(0, 1, .iconst (-1), 0, 0, 0, .int (-1), []),
  (1, 2, .istore_n 3, 3, 0, 0, .null, []),
  (2, 3, .iconst 0, 0, 0, 0, .int (nI 0), []),
  (3, 5, .istore 4, 4, 0, 0, .null, []),
  (5, 7, .iload 4, 4, 0, 0, .null, []),
  (7, 8, .iconst 1, 0, 0, 0, .int (nI 1), []),
  (8, 9, .aload_n 0, 0, 0, 0, .null, []),
  (9, 12, .getfield 91, 5, 3, 521, .null, []),
  (12, 13, .ishl, 0, 0, 0, .null, []),
  (13, 16, .if_icmp .ge 55, 68, 0, 0, .null, []),
  (16, 17, .iload_n 3, 3, 0, 0, .null, []),
  (17, 18, .iconst (-1), 0, 0, 0, .int (-1), []),
  (18, 21, .if_icmp .eq 15, 33, 0, 0, .null, []),
  (21, 23, .iload 4, 4, 0, 0, .null, []),
  (23, 26, .invokestatic 179, 81, 1, 768, .null, []),
  (26, 27, .iload_n 3, 3, 0, 0, .null, []),
  (27, 30, .invokestatic 179, 81, 1, 768, .null, []),
  (30, 33, .if_icmp .ge 7, 37, 0, 0, .null, []),
  (33, 34, .iconst 1, 0, 0, 0, .int (nI 1), []),
  (34, 37, .goto 4, 38, 0, 0, .null, []),
  (37, 38, .iconst 0, 0, 0, 0, .int (nI 0), []),
  (38, 40, .istore 5, 5, 0, 0, .null, []),
  (40, 42, .iload 5, 5, 0, 0, .null, []),
  (42, 45, .ifCond .eq 18, 60, 0, 0, .null, []),
  (45, 46, .aload_n 0, 0, 0, 0, .null, []),
  (46, 48, .iload 4, 4, 0, 0, .null, []),
  (48, 49, .iload_n 1, 1, 0, 0, .null, []),
  (49, 52, .invokevirtual 182, 119, 2, 771, .ref 5, []),
  (52, 55, .ifCond .eq 8, 60, 0, 0, .null, []),
  (55, 57, .iload 4, 4, 0, 0, .null, []),
  (57, 60, .goto 4, 61, 0, 0, .null, []),
  (60, 61, .iload_n 3, 3, 0, 0, .null, []),
  (61, 62, .istore_n 3, 3, 0, 0, .null, []),
  (62, 65, .iinc 4 1, 4, 0, 0, .int (nI 1), []),
  (65, 68, .goto (-60), 5, 0, 0, .null, []),
  (68, 69, .iload_n 3, 3, 0, 0, .null, []),
  (69, 70, .iconst (-1), 0, 0, 0, .int (-1), []),
  (70, 73, .if_icmp .eq 8, 78, 0, 0, .null, []),
  (73, 74, .iload_n 2, 2, 0, 0, .null, []),
  (74, 75, .iconst 1, 0, 0, 0, .int (nI 1), []),
  (75, 78, .if_icmp .ne 7, 82, 0, 0, .null, []),
  (78, 79, .iload_n 3, 3, 0, 0, .null, []),
  (79, 82, .goto 7, 86, 0, 0, .null, []),
  (82, 83, .iload_n 3, 3, 0, 0, .null, []),
  (83, 86, .invokestatic 179, 81, 1, 768, .null, []),
  (86, 87, .ireturn, 0, 0, 0, .null, [])]
def sm_t121 : List sm_I := [(0, 1, .aload_n 0, 0, 0, 0, .null, []),
  (1, 2, .iload_n 1, 1, 0, 0, .null, []),
  (2, 5, .invokevirtual 97, 88, 1, 647, .ref 5, []),
  (5, 8, .ifCond .ne 6, 11, 0, 0, .null, []),
  (8, 10, .bipush (-101), 0, 0, 0, .int (-101), []),
  (10, 11, .ireturn, 0, 0, 0, .null, []),
  (11, 12, .iload_n 2, 2, 0, 0, .null, []),
  (12, 13, .iconst 0, 0, 0, 0, .int (nI 0), []),
  (13, 14, .iconst 1, 0, 0, 0, .int (nI 1), []),
  (14, 17, .invokestatic 69, 79, 3, 621, .null, []),
  (17, 20, .ifCond .ne 6, 23, 0, 0, .null, []),
  (20, 22, .bipush (-102), 0, 0, 0, .int (-102), []),
  (22, 23, .ireturn, 0, 0, 0, .null, []),
  (23, 24, .aload_n 0, 0, 0, 0, .null, []),
  (24, 27, .invokevirtual 155, 115, 0, 744, .ref 5, []),
  (27, 30, .ifCond .ne 6, 33, 0, 0, .null, []),
  (30, 32, .bipush (-103), 0, 0, 0, .int (-103), []),
  (32, 33, .ireturn, 0, 0, 0, .null, []),
  (33, 34, .aload_n 0, 0, 0, 0, .null, []),
  (34, 35, .dup, 0, 0, 0, .null, []),
  (35, 38, .getfield 152, 5, 11, 529, .null, []),
  (38, 39, .iconst 1, 0, 0, 0, .int (nI 1), []),
  (39, 40, .iadd, 0, 0, 0, .null, []),
  (40, 43, .putfield 152, 5, 11, 529, .int 0, []),
  (43, 44, .aload_n 0, 0, 0, 0, .null, []),
  (44, 47, .invokevirtual 137, 106, 0, 700, .ref 5, []),
  (47, 50, .ifCond .ne 7, 54, 0, 0, .null, []),
  (50, 51, .iconst (-1), 0, 0, 0, .int (-1), []),
  (51, 54, .goto 9, 60, 0, 0, .null, []),
  (54, 55, .aload_n 0, 0, 0, 0, .null, []),
  (55, 56, .iload_n 1, 1, 0, 0, .null, []),
  (56, 57, .iload_n 2, 2, 0, 0, .null, []),
  (57, 60, .invokevirtual 186, 120, 2, 764, .ref 5, []),
  (60, 61, .ireturn, 0, 0, 0, .null, [])]
def sm_t122 : List sm_I := [(0, 1, .iconst 0, 0, 0, 0, .int (nI 0), []),
  (1, 2, .istore_n 1, 1, 0, 0, .null, []),
  (2, 3, .iload_n 1, 1, 0, 0, .null, []),
  (3, 4, .aload_n 0, 0, 0, 0, .null, []),
  (4, 7, .invokevirtual 131, 102, 0, 704, .ref 5, []),
  (7, 10, .if_icmp .ge 19, 26, 0, 0, .null, []),
  (10, 11, .aload_n 0, 0, 0, 0, .null, []),
  (11, 12, .iload_n 1, 1, 0, 0, .null, []),
  (12, 15, .invokevirtual 134, 105, 1, 712, .ref 5, []),
  (15, 18, .ifCond .eq 5, 20, 0, 0, .null, []),
  (18, 19, .iconst 1, 0, 0, 0, .int (nI 1), []),
  (19, 20, .ireturn, 0, 1, 0, .null, []),
  (20, 23, .iinc 1 1, 1, 0, 0, .int (nI 1), []),
  (23, 26, .goto (-21), 2, 0, 0, .null, []),
  (26, 27, .iconst 0, 0, 0, 0, .int (nI 0), []),
  (27, 28, .ireturn, 0, 1, 0, .null, [])]
def sm_t123 : List sm_I := [(0, 1, .aload_n 0, 0, 0, 0, .null, []),
  (1, 4, .getfield 13, 5, 4, 522, .null, []),
  (4, 5, .iload_n 1, 1, 0, 0, .null, []),
  (5, 6, .iaload, 0, 0, 0, .null, []),
  (6, 7, .istore_n 3, 3, 0, 0, .null, []),
  (7, 8, .aload_n 0, 0, 0, 0, .null, []),
  (8, 11, .getfield 19, 5, 6, 524, .null, []),
  (11, 12, .iload_n 1, 1, 0, 0, .null, []),
  (12, 13, .iaload, 0, 0, 0, .null, []),
  (13, 15, .istore 4, 4, 0, 0, .null, []),
  (15, 16, .iconst 0, 0, 0, 0, .int (nI 0), []),
  (16, 18, .istore 5, 5, 0, 0, .null, []),
  (18, 19, .iconst (-1), 0, 0, 0, .int (-1), []),
  (19, 21, .istore 6, 6, 0, 0, .null, []),
  (21, 23, .bipush 19, 0, 0, 0, .int (nI 19), []),
  (23, 25, .istore 7, 7, 0, 0, .null, []),
  (25, 27, .iload 7, 7, 0, 0, .null, []),
  (27, 30, .ifCond .lt 64, 91, 0, 0, .null, []),
  (30, 31, .aload_n 0, 0, 0, 0, .null, []),
  (31, 34, .getfield 13, 5, 4, 522, .null, []),
  (34, 35, .iload_n 1, 1, 0, 0, .null, []),
  (35, 37, .iload 7, 7, 0, 0, .null, []),
  (37, 38, .iconst 4, 0, 0, 0, .int (nI 4), []),
  (38, 39, .idiv, 0, 0, 0, .null, []),
  (39, 40, .iastore, 0, 0, 0, .null, []),
  (40, 41, .aload_n 0, 0, 0, 0, .null, []),
  (41, 44, .getfield 19, 5, 6, 524, .null, []),
  (44, 45, .iload_n 1, 1, 0, 0, .null, []),
  (45, 47, .iload 7, 7, 0, 0, .null, []),
  (47, 48, .iconst 4, 0, 0, 0, .int (nI 4), []),
  (48, 49, .irem, 0, 0, 0, .null, []),
  (49, 50, .iastore, 0, 0, 0, .null, []),
  (50, 51, .aload_n 0, 0, 0, 0, .null, []),
  (51, 54, .invokevirtual 189, 122, 0, 794, .ref 5, []),
  (54, 56, .istore 8, 8, 0, 0, .null, []),
  (56, 58, .iload 5, 5, 0, 0, .null, []),
  (58, 60, .iload 8, 8, 0, 0, .null, []),
  (60, 63, .ifCond .eq 7, 67, 0, 0, .null, []),
  (63, 64, .iconst 1, 0, 0, 0, .int (nI 1), []),
  (64, 67, .goto 4, 68, 0, 0, .null, []),
  (67, 68, .iconst 0, 0, 0, 0, .int (nI 0), []),
  (68, 69, .iadd, 0, 0, 0, .null, []),
  (69, 71, .istore 5, 5, 0, 0, .null, []),
  (71, 73, .iload 8, 8, 0, 0, .null, []),
  (73, 76, .ifCond .eq 8, 81, 0, 0, .null, []),
  (76, 78, .iload 7, 7, 0, 0, .null, []),
  (78, 81, .goto 5, 83, 0, 0, .null, []),
  (81, 83, .iload 6, 6, 0, 0, .null, []),
  (83, 85, .istore 6, 6, 0, 0, .null, []),
  (85, 88, .iinc 7 (-1), 7, 0, 0, .int (-1), []),
  (88, 91, .goto (-63), 25, 0, 0, .null, []),
  (91, 92, .aload_n 0, 0, 0, 0, .null, []),
  (92, 95, .getfield 13, 5, 4, 522, .null, []),
  (95, 96, .iload_n 1, 1, 0, 0, .null, []),
  (96, 97, .iload_n 3, 3, 0, 0, .null, []),
  (97, 98, .iastore, 0, 0, 0, .null, []),
  (98, 99, .aload_n 0, 0, 0, 0, .null, []),
  (99, 102, .getfield 19, 5, 6, 524, .null, []),
  (102, 103, .iload_n 1, 1, 0, 0, .null, []),
  (103, 105, .iload 4, 4, 0, 0, .null, []),
  (105, 106, .iastore, 0, 0, 0, .null, []),
  (106, 107, .iload_n 2, 2, 0, 0, .null, []),
  (107, 110, .ifCond .ne 8, 115, 0, 0, .null, []),
  (110, 112, .iload 5, 5, 0, 0, .null, []),
  (112, 115, .goto 5, 117, 0, 0, .null, []),
  (115, 117, .iload 6, 6, 0, 0, .null, []),
  (117, 118, .ireturn, 0, 0, 0, .null, [])]
def sm_t124 : List sm_I := [(0, 1, .aload_n 0, 0, 0, 0, .null, []),
  (1, 2, .iload_n 1, 1, 0, 0, .null, []),
  (2, 5, .invokevirtual 115, 89, 1, 662, .ref 5, []),
  (5, 8, .ifCond .ne 6, 11, 0, 0, .null, []),
  (8, 10, .bipush (-101), 0, 0, 0, .int (-101), []),
  (10, 11, .ireturn, 0, 0, 0, .null, []),
  (11, 12, .iload_n 2, 2, 0, 0, .null, []),
  (12, 13, .iconst 0, 0, 0, 0, .int (nI 0), []),
  (13, 14, .iconst 1, 0, 0, 0, .int (nI 1), []),
  (14, 17, .invokestatic 69, 79, 3, 621, .null, []),
  (17, 20, .ifCond .ne 6, 23, 0, 0, .null, []),
  (20, 22, .bipush (-102), 0, 0, 0, .int (-102), []),
  (22, 23, .ireturn, 0, 0, 0, .null, []),
  (23, 24, .aload_n 0, 0, 0, 0, .null, []),
  (24, 27, .invokevirtual 155, 115, 0, 744, .ref 5, []),
  (27, 30, .ifCond .ne 6, 33, 0, 0, .null, []),
  (30, 32, .bipush (-103), 0, 0, 0, .int (-103), []),
  (32, 33, .ireturn, 0, 0, 0, .null, []),
  (33, 34, .aload_n 0, 0, 0, 0, .null, []),
  (34, 35, .dup, 0, 0, 0, .null, []),
  (35, 38, .getfield 152, 5, 11, 529, .null, []),
  (38, 39, .iconst 1, 0, 0, 0, .int (nI 1), []),
  (39, 40, .iadd, 0, 0, 0, .null, []),
  (40, 43, .putfield 152, 5, 11, 529, .int 0, []),
  (43, 44, .aload_n 0, 0, 0, 0, .null, []),
  (44, 45, .iload_n 1, 1, 0, 0, .null, []),
  (45, 46, .iload_n 2, 2, 0, 0, .null, []),
  (46, 49, .invokevirtual 192, 123, 2, 790, .ref 5, []),
  (49, 50, .ireturn, 0, 0, 0, .null, [])]
def sm_t125 : List sm_I := [(0, 1, .iconst 1, 0, 0, 0, .int (nI 1), []),
  (1, 2, .istore_n 2, 2, 0, 0, .null, []),
  (2, 3, .iconst 0, 0, 0, 0, .int (nI 0), []),
  (3, 4, .istore_n 3, 3, 0, 0, .null, []),
  (4, 5, .iload_n 3, 3, 0, 0, .null, []),
  (5, 6, .iload_n 1, 1, 0, 0, .null, []),
  (6, 9, .if_icmp .gt 29, 35, 0, 0, .null, []),
  (9, 10, .iload_n 2, 2, 0, 0, .null, []),
  (10, 13, .ifCond .eq 17, 27, 0, 0, .null, []),
  (13, 14, .aload_n 0, 0, 0, 0, .null, []),
  (14, 17, .getfield 7, 5, 2, 520, .null, []),
  (17, 18, .iload_n 3, 3, 0, 0, .null, []),
  (18, 19, .iaload, 0, 0, 0, .null, []),
  (19, 20, .iconst (-1), 0, 0, 0, .int (-1), []),
  (20, 23, .if_icmp .eq 7, 27, 0, 0, .null, []),
  (23, 24, .iconst 1, 0, 0, 0, .int (nI 1), []),
  (24, 27, .goto 4, 28, 0, 0, .null, []),
  (27, 28, .iconst 0, 0, 0, 0, .int (nI 0), []),
  (28, 29, .istore_n 2, 2, 0, 0, .null, []),
  (29, 32, .iinc 3 1, 3, 0, 0, .int (nI 1), []),
  (32, 35, .goto (-28), 4, 0, 0, .null, []),
  (35, 36, .iload_n 2, 2, 0, 0, .null, []),
  (36, 37, .ireturn, 0, 1, 0, .null, [])]
def sm_t126 : List sm_I := [(0, 1, .aload_n 0, 0, 0, 0, .null, []),
  (1, 4, .getfield 16, 5, 5, 523, .null, []),
  (4, 5, .iload_n 1, 1, 0, 0, .null, []),
  (5, 6, .iaload, 0, 0, 0, .null, []),
  (6, 8, .istore 4, 4, 0, 0, .null, []),
  (8, 9, .iconst 0, 0, 0, 0, .int (nI 0), []),
  (9, 11, .istore 5, 5, 0, 0, .null, []),
  (11, 13, .iload 5, 5, 0, 0, .null, []),
  (13, 14, .iload_n 3, 3, 0, 0, .null, []),
  (14, 17, .if_icmp .gt 30, 44, 0, 0, .null, []),
  (17, 18, .aload_n 0, 0, 0, 0, .null, []),
  (18, 21, .getfield 13, 5, 4, 522, .null, []),
  (21, 22, .iload_n 1, 1, 0, 0, .null, []),
  (22, 23, .iaload, 0, 0, 0, .null, []),
  (23, 24, .iload_n 2, 2, 0, 0, .null, []),
  (24, 26, .iload 4, 4, 0, 0, .null, []),
  (26, 27, .aload_n 0, 0, 0, 0, .null, []),
  (27, 30, .getfield 7, 5, 2, 520, .null, []),
  (30, 32, .iload 5, 5, 0, 0, .null, []),
  (32, 33, .iaload, 0, 0, 0, .null, []),
  (33, 36, .invokestatic 111, 92, 4, 674, .null, []),
  (36, 38, .istore 4, 4, 0, 0, .null, []),
  (38, 41, .iinc 5 1, 5, 0, 0, .int (nI 1), []),
  (41, 44, .goto (-30), 11, 0, 0, .null, []),
  (44, 46, .iload 4, 4, 0, 0, .null, []),
  (46, 47, .ireturn, 0, 0, 0, .null, [])]
def sm_t127 : List sm_I := [(0, 1, .iconst 0, 0, 0, 0, .int (nI 0), []),
  (1, 3, .istore 4, 4, 0, 0, .null, []),
  (3, 4, .iconst 0, 0, 0, 0, .int (nI 0), []),
  (4, 6, .istore 5, 5, 0, 0, .null, []),
  (6, 8, .iload 5, 5, 0, 0, .null, []),
  (8, 9, .iconst 4, 0, 0, 0, .int (nI 4), []),
  (9, 12, .if_icmp .ge 44, 53, 0, 0, .null, []),
  (12, 14, .iload 4, 4, 0, 0, .null, []),
  (14, 17, .ifCond .ne 26, 40, 0, 0, .null, []),
  (17, 19, .iload 5, 5, 0, 0, .null, []),
  (19, 20, .aload_n 0, 0, 0, 0, .null, []),
  (20, 23, .getfield 19, 5, 6, 524, .null, []),
  (23, 24, .iload_n 1, 1, 0, 0, .null, []),
  (24, 25, .iaload, 0, 0, 0, .null, []),
  (25, 28, .if_icmp .eq 19, 44, 0, 0, .null, []),
  (28, 29, .aload_n 0, 0, 0, 0, .null, []),
  (29, 30, .iload_n 1, 1, 0, 0, .null, []),
  (30, 32, .iload 5, 5, 0, 0, .null, []),
  (32, 33, .iload_n 2, 2, 0, 0, .null, []),
  (33, 36, .invokevirtual 195, 126, 3, 814, .ref 5, []),
  (36, 37, .iload_n 3, 3, 0, 0, .null, []),
  (37, 40, .if_icmp .ne 7, 44, 0, 0, .null, []),
  (40, 41, .iconst 1, 0, 0, 0, .int (nI 1), []),
  (41, 44, .goto 4, 45, 0, 0, .null, []),
  (44, 45, .iconst 0, 0, 0, 0, .int (nI 0), []),
  (45, 47, .istore 4, 4, 0, 0, .null, []),
  (47, 50, .iinc 5 1, 5, 0, 0, .int (nI 1), []),
  (50, 53, .goto (-44), 6, 0, 0, .null, []),
  (53, 55, .iload 4, 4, 0, 0, .null, []),
  (55, 56, .ireturn, 0, 1, 0, .null, [])]
def sm_t128 : List sm_I := [(0, 1, .iconst (-1), 0, 0, 0, .int (-1), []),
  (1, 3, .istore 4, 4, 0, 0, .null, []),
  (3, 4, .iconst 0, 0, 0, 0, .int (nI 0), []),
  (4, 6, .istore 5, 5, 0, 0, .null, []),
  (6, 8, .iload 5, 5, 0, 0, .null, []),
  (8, 9, .iconst 1, 0, 0, 0, .int (nI 1), []),
  (9, 10, .aload_n 0, 0, 0, 0, .null, []),
  (10, 13, .getfield 91, 5, 3, 521, .null, []),
  (13, 14, .ishl, 0, 0, 0, .null, []),
  (14, 17, .if_icmp .ge 155, 169, 0, 0, .null, []),
  (17, 18, .iconst 0, 0, 0, 0, .int (nI 0), []),
  (18, 20, .istore 6, 6, 0, 0, .null, []),
  (20, 21, .iconst 0, 0, 0, 0, .int (nI 0), []),
  (21, 23, .istore 7, 7, 0, 0, .null, []),
  (23, 25, .iload 7, 7, 0, 0, .null, []),
  (25, 26, .aload_n 0, 0, 0, 0, .null, []),
  (26, 29, .getfield 91, 5, 3, 521, .null, []),
  (29, 32, .if_icmp .ge 83, 112, 0, 0, .null, []),
  (32, 34, .iload 5, 5, 0, 0, .null, []),
  (34, 36, .iload 7, 7, 0, 0, .null, []),
  (36, 37, .ishr, 0, 0, 0, .null, []),
  (37, 38, .iconst 1, 0, 0, 0, .int (nI 1), []),
  (38, 39, .iand, 0, 0, 0, .null, []),
  (39, 40, .iconst 1, 0, 0, 0, .int (nI 1), []),
  (40, 43, .if_icmp .ne 7, 47, 0, 0, .null, []),
  (43, 44, .iconst 1, 0, 0, 0, .int (nI 1), []),
  (44, 47, .goto 4, 48, 0, 0, .null, []),
  (47, 48, .iconst 0, 0, 0, 0, .int (nI 0), []),
  (48, 50, .istore 8, 8, 0, 0, .null, []),
  (50, 52, .iload 8, 8, 0, 0, .null, []),
  (52, 55, .ifCond .eq 14, 66, 0, 0, .null, []),
  (55, 56, .aload_n 0, 0, 0, 0, .null, []),
  (56, 58, .iload 7, 7, 0, 0, .null, []),
  (58, 59, .iload_n 1, 1, 0, 0, .null, []),
  (59, 60, .iload_n 2, 2, 0, 0, .null, []),
  (60, 63, .invokevirtual 199, 127, 3, 810, .ref 5, []),
  (63, 66, .goto 26, 89, 0, 0, .null, []),
  (66, 67, .aload_n 0, 0, 0, 0, .null, []),
  (67, 69, .iload 7, 7, 0, 0, .null, []),
  (69, 70, .aload_n 0, 0, 0, 0, .null, []),
  (70, 73, .getfield 19, 5, 6, 524, .null, []),
  (73, 75, .iload 7, 7, 0, 0, .null, []),
  (75, 76, .iaload, 0, 0, 0, .null, []),
  (76, 77, .iload_n 1, 1, 0, 0, .null, []),
  (77, 80, .invokevirtual 195, 126, 3, 814, .ref 5, []),
  (80, 81, .iload_n 2, 2, 0, 0, .null, []),
  (81, 84, .if_icmp .ne 7, 88, 0, 0, .null, []),
  (84, 85, .iconst 1, 0, 0, 0, .int (nI 1), []),
  (85, 88, .goto 4, 89, 0, 0, .null, []),
  (88, 89, .iconst 0, 0, 0, 0, .int (nI 0), []),
  (89, 91, .istore 9, 9, 0, 0, .null, []),
  (91, 93, .iload 6, 6, 0, 0, .null, []),
  (93, 95, .iload 9, 9, 0, 0, .null, []),
  (95, 98, .ifCond .eq 7, 102, 0, 0, .null, []),
  (98, 99, .iconst 1, 0, 0, 0, .int (nI 1), []),
  (99, 102, .goto 4, 103, 0, 0, .null, []),
  (102, 103, .iconst 0, 0, 0, 0, .int (nI 0), []),
  (103, 104, .iadd, 0, 0, 0, .null, []),
  (104, 106, .istore 6, 6, 0, 0, .null, []),
  (106, 109, .iinc 7 1, 7, 0, 0, .int (nI 1), []),
  (109, 112, .goto (-86), 23, 0, 0, .null, []),
  (112, 114, .iload 4, 4, 0, 0, .null, []),
  (114, 115, .iconst (-1), 0, 0, 0, .int (-1), []),
  (115, 118, .if_icmp .eq 16, 131, 0, 0, .null, []),
  (118, 120, .iload 5, 5, 0, 0, .null, []),
  (120, 123, .invokestatic 179, 81, 1, 768, .null, []),
  (123, 125, .iload 4, 4, 0, 0, .null, []),
  (125, 128, .invokestatic 179, 81, 1, 768, .null, []),
  (128, 131, .if_icmp .ge 7, 135, 0, 0, .null, []),
  (131, 132, .iconst 1, 0, 0, 0, .int (nI 1), []),
  (132, 135, .goto 4, 136, 0, 0, .null, []),
  (135, 136, .iconst 0, 0, 0, 0, .int (nI 0), []),
  (136, 138, .istore 7, 7, 0, 0, .null, []),
  (138, 140, .iload 7, 7, 0, 0, .null, []),
  (140, 143, .ifCond .eq 19, 159, 0, 0, .null, []),
  (143, 144, .iconst 2, 0, 0, 0, .int (nI 2), []),
  (144, 146, .iload 6, 6, 0, 0, .null, []),
  (146, 147, .imul, 0, 0, 0, .null, []),
  (147, 148, .aload_n 0, 0, 0, 0, .null, []),
  (148, 151, .getfield 91, 5, 3, 521, .null, []),
  (151, 154, .if_icmp .le 8, 159, 0, 0, .null, []),
  (154, 156, .iload 5, 5, 0, 0, .null, []),
  (156, 159, .goto 5, 161, 0, 0, .null, []),
  (159, 161, .iload 4, 4, 0, 0, .null, []),
  (161, 163, .istore 4, 4, 0, 0, .null, []),
  (163, 166, .iinc 5 1, 5, 0, 0, .int (nI 1), []),
  (166, 169, .goto (-160), 6, 0, 0, .null, []),
  (169, 171, .iload 4, 4, 0, 0, .null, []),
  (171, 172, .iconst (-1), 0, 0, 0, .int (-1), []),
  (172, 175, .if_icmp .eq 8, 180, 0, 0, .null, []),
  (175, 176, .iload_n 3, 3, 0, 0, .null, []),
  (176, 177, .iconst 1, 0, 0, 0, .int (nI 1), []),
  (177, 180, .if_icmp .ne 8, 185, 0, 0, .null, []),
  (180, 182, .iload 4, 4, 0, 0, .null, []),
  (182, 185, .goto 8, 190, 0, 0, .null, []),
  (185, 187, .iload 4, 4, 0, 0, .null, []),
  (187, 190, .invokestatic 179, 81, 1, 768, .null, []),
  (190, 191, .ireturn, 0, 0, 0, .null, [])]
def sm_t129 : List sm_I := [(0, 1, .aload_n 0, 0, 0, 0, .null, []),
  (1, 2, .iload_n 1, 1, 0, 0, .null, []),
  (2, 5, .invokevirtual 97, 88, 1, 647, .ref 5, []),
  (5, 8, .ifCond .ne 6, 11, 0, 0, .null, []),
  (8, 10, .bipush (-101), 0, 0, 0, .int (-101), []),
  (10, 11, .ireturn, 0, 0, 0, .null, []),
  (11, 12, .iload_n 2, 2, 0, 0, .null, []),
  (12, 15, .invokestatic 105, 80, 1, 655, .null, []),
  (15, 18, .ifCond .eq 12, 27, 0, 0, .null, []),
  (18, 19, .iload_n 3, 3, 0, 0, .null, []),
  (19, 20, .iconst 0, 0, 0, 0, .int (nI 0), []),
  (20, 21, .iconst 1, 0, 0, 0, .int (nI 1), []),
  (21, 24, .invokestatic 69, 79, 3, 621, .null, []),
  (24, 27, .ifCond .ne 6, 30, 0, 0, .null, []),
  (27, 29, .bipush (-102), 0, 0, 0, .int (-102), []),
  (29, 30, .ireturn, 0, 0, 0, .null, []),
  (30, 31, .aload_n 0, 0, 0, 0, .null, []),
  (31, 34, .getfield 91, 5, 3, 521, .null, []),
  (34, 37, .ifCond .eq 11, 45, 0, 0, .null, []),
  (37, 38, .aload_n 0, 0, 0, 0, .null, []),
  (38, 39, .iload_n 1, 1, 0, 0, .null, []),
  (39, 42, .invokevirtual 202, 125, 1, 802, .ref 5, []),
  (42, 45, .ifCond .ne 8, 50, 0, 0, .null, []),
  (45, 47, .bipush (-103), 0, 0, 0, .int (-103), []),
  (47, 50, .goto 10, 57, 0, 0, .null, []),
  (50, 51, .aload_n 0, 0, 0, 0, .null, []),
  (51, 52, .iload_n 1, 1, 0, 0, .null, []),
  (52, 53, .iload_n 2, 2, 0, 0, .null, []),
  (53, 54, .iload_n 3, 3, 0, 0, .null, []),
  (54, 57, .invokevirtual 205, 128, 3, 806, .ref 5, []),
  (57, 58, .ireturn, 0, 0, 0, .null, [])]
def sm_t130 : List sm_I := [(0, 1, .aload_n 0, 0, 0, 0, .null, []),
  (1, 4, .ldc2_w 208, 0, 0, 834, .long (lN 1103515245), []),
  (4, 5, .aload_n 0, 0, 0, 0, .null, []),
  (5, 8, .getfield 210, 5, 21, 539, .null, []),
  (8, 9, .lmul, 0, 0, 0, .null, []),
  (9, 12, .ldc2_w 214, 0, 0, 835, .long (lN 12345), []),
  (12, 13, .ladd, 0, 0, 0, .null, []),
  (13, 16, .ldc2_w 216, 0, 0, 836, .long (lN 2147483647), []),
  (16, 17, .land, 0, 0, 0, .null, []),
  (17, 20, .putfield 210, 5, 21, 539, .long 0, []),
  (20, 21, .aload_n 0, 0, 0, 0, .null, []),
  (21, 24, .getfield 210, 5, 21, 539, .null, []),
  (24, 27, .ldc2_w 218, 0, 0, 837, .long (lN 65536), []),
  (27, 28, .ldiv, 0, 0, 0, .null, []),
  (28, 29, .iload_n 1, 1, 0, 0, .null, []),
  (29, 30, .i2l, 0, 0, 0, .null, []),
  (30, 31, .lrem, 0, 0, 0, .null, []),
  (31, 32, .l2i, 0, 0, 0, .null, []),
  (32, 33, .ireturn, 0, 0, 0, .null, [])]
def sm_t131 : List sm_I := [(0, 1, .iconst 0, 0, 0, 0, .int (nI 0), []),
  (1, 2, .istore_n 1, 1, 0, 0, .null, []),
  (2, 3, .iload_n 1, 1, 0, 0, .null, []),
  (3, 4, .aload_n 0, 0, 0, 0, .null, []),
  (4, 7, .getfield 85, 5, 1, 519, .null, []),
  (7, 10, .if_icmp .ge 39, 46, 0, 0, .null, []),
  (10, 11, .aload_n 0, 0, 0, 0, .null, []),
  (11, 14, .getfield 35, 5, 14, 532, .null, []),
  (14, 15, .iload_n 1, 1, 0, 0, .null, []),
  (15, 16, .aload_n 0, 0, 0, 0, .null, []),
  (16, 19, .getfield 7, 5, 2, 520, .null, []),
  (19, 20, .iload_n 1, 1, 0, 0, .null, []),
  (20, 21, .iaload, 0, 0, 0, .null, []),
  (21, 22, .iconst (-1), 0, 0, 0, .int (-1), []),
  (22, 25, .if_icmp .ne 11, 33, 0, 0, .null, []),
  (25, 26, .aload_n 0, 0, 0, 0, .null, []),
  (26, 27, .iconst 4, 0, 0, 0, .int (nI 4), []),
  (27, 30, .invokevirtual 220, 130, 1, 830, .ref 5, []),
  (30, 33, .goto 9, 39, 0, 0, .null, []),
  (33, 34, .aload_n 0, 0, 0, 0, .null, []),
  (34, 37, .getfield 7, 5, 2, 520, .null, []),
  (37, 38, .iload_n 1, 1, 0, 0, .null, []),
  (38, 39, .iaload, 0, 0, 0, .null, []),
  (39, 40, .iastore, 0, 0, 0, .null, []),
  (40, 43, .iinc 1 1, 1, 0, 0, .int (nI 1), []),
  (43, 46, .goto (-41), 2, 0, 0, .null, []),
  (46, 47, .iconst 0, 0, 0, 0, .int (nI 0), []),
  (47, 48, .istore_n 1, 1, 0, 0, .null, []),
  (48, 49, .iload_n 1, 1, 0, 0, .null, []),
  (49, 50, .aload_n 0, 0, 0, 0, .null, []),
  (50, 53, .getfield 91, 5, 3, 521, .null, []),
  (53, 56, .if_icmp .ge 14, 67, 0, 0, .null, []),
  (56, 57, .aload_n 0, 0, 0, 0, .null, []),
  (57, 58, .iload_n 1, 1, 0, 0, .null, []),
  (58, 61, .invokevirtual 124, 104, 1, 720, .ref 5, []),
  (61, 64, .iinc 1 1, 1, 0, 0, .int (nI 1), []),
  (64, 67, .goto (-16), 48, 0, 0, .null, []),
  (67, 68, .iconst 0, 0, 0, 0, .int (nI 0), []),
  (68, 69, .istore_n 1, 1, 0, 0, .null, []),
  (69, 70, .iconst 0, 0, 0, 0, .int (nI 0), []),
  (70, 71, .istore_n 2, 2, 0, 0, .null, []),
  (71, 72, .iload_n 2, 2, 0, 0, .null, []),
  (72, 73, .aload_n 0, 0, 0, 0, .null, []),
  (73, 76, .getfield 85, 5, 1, 519, .null, []),
  (76, 79, .if_icmp .ge 76, 152, 0, 0, .null, []),
  (79, 80, .iconst 0, 0, 0, 0, .int (nI 0), []),
  (80, 81, .istore_n 3, 3, 0, 0, .null, []),
  (81, 82, .iconst 0, 0, 0, 0, .int (nI 0), []),
  (82, 84, .istore 4, 4, 0, 0, .null, []),
  (84, 86, .iload 4, 4, 0, 0, .null, []),
  (86, 87, .aload_n 0, 0, 0, 0, .null, []),
  (87, 90, .getfield 91, 5, 3, 521, .null, []),
  (90, 93, .if_icmp .ge 38, 128, 0, 0, .null, []),
  (93, 94, .iload_n 3, 3, 0, 0, .null, []),
  (94, 95, .aload_n 0, 0, 0, 0, .null, []),
  (95, 98, .getfield 38, 5, 15, 533, .null, []),
  (98, 100, .bipush 6, 0, 0, 0, .int (nI 6), []),
  (100, 102, .iload 4, 4, 0, 0, .null, []),
  (102, 103, .imul, 0, 0, 0, .null, []),
  (103, 104, .iload_n 2, 2, 0, 0, .null, []),
  (104, 105, .iadd, 0, 0, 0, .null, []),
  (105, 106, .iaload, 0, 0, 0, .null, []),
  (106, 107, .aload_n 0, 0, 0, 0, .null, []),
  (107, 110, .getfield 35, 5, 14, 532, .null, []),
  (110, 111, .iload_n 2, 2, 0, 0, .null, []),
  (111, 112, .iaload, 0, 0, 0, .null, []),
  (112, 115, .if_icmp .ne 7, 119, 0, 0, .null, []),
  (115, 116, .iconst 1, 0, 0, 0, .int (nI 1), []),
  (116, 119, .goto 4, 120, 0, 0, .null, []),
  (119, 120, .iconst 0, 0, 0, 0, .int (nI 0), []),
  (120, 121, .iadd, 0, 0, 0, .null, []),
  (121, 122, .istore_n 3, 3, 0, 0, .null, []),
  (122, 125, .iinc 4 1, 4, 0, 0, .int (nI 1), []),
  (125, 128, .goto (-41), 84, 0, 0, .null, []),
  (128, 129, .iload_n 1, 1, 0, 0, .null, []),
  (129, 130, .iconst 2, 0, 0, 0, .int (nI 2), []),
  (130, 131, .iload_n 3, 3, 0, 0, .null, []),
  (131, 132, .imul, 0, 0, 0, .null, []),
  (132, 133, .aload_n 0, 0, 0, 0, .null, []),
  (133, 136, .getfield 91, 5, 3, 521, .null, []),
  (136, 139, .if_icmp .le 7, 143, 0, 0, .null, []),
  (139, 140, .iconst 1, 0, 0, 0, .int (nI 1), []),
  (140, 143, .goto 4, 144, 0, 0, .null, []),
  (143, 144, .iconst 0, 0, 0, 0, .int (nI 0), []),
  (144, 145, .iadd, 0, 0, 0, .null, []),
  (145, 146, .istore_n 1, 1, 0, 0, .null, []),
  (146, 149, .iinc 2 1, 2, 0, 0, .int (nI 1), []),
  (149, 152, .goto (-78), 71, 0, 0, .null, []),
  (152, 153, .iload_n 1, 1, 0, 0, .null, []),
  (153, 154, .ireturn, 0, 0, 0, .null, [])]
def sm_t132 : List sm_I := [(0, 1, .aload_n 0, 0, 0, 0, .null, []),
  (1, 2, .iload_n 2, 2, 0, 0, .null, []),
  (2, 3, .i2l, 0, 0, 0, .null, []),
  (3, 6, .putfield 210, 5, 21, 539, .long 0, []),
  (6, 7, .iconst 0, 0, 0, 0, .int (nI 0), []),
  (7, 9, .istore 4, 4, 0, 0, .null, []),
  (9, 10, .iconst 0, 0, 0, 0, .int (nI 0), []),
  (10, 12, .istore 5, 5, 0, 0, .null, []),
  (12, 14, .iload 5, 5, 0, 0, .null, []),
  (14, 15, .iload_n 1, 1, 0, 0, .null, []),
  (15, 18, .if_icmp .ge 18, 33, 0, 0, .null, []),
  (18, 20, .iload 4, 4, 0, 0, .null, []),
  (20, 21, .aload_n 0, 0, 0, 0, .null, []),
  (21, 24, .invokevirtual 223, 131, 0, 826, .ref 5, []),
  (24, 25, .iadd, 0, 0, 0, .null, []),
  (25, 27, .istore 4, 4, 0, 0, .null, []),
  (27, 30, .iinc 5 1, 5, 0, 0, .int (nI 1), []),
  (30, 33, .goto (-18), 12, 0, 0, .null, []),
  (33, 34, .iload_n 3, 3, 0, 0, .null, []),
  (34, 37, .ifCond .ne 8, 42, 0, 0, .null, []),
  (37, 39, .iload 4, 4, 0, 0, .null, []),
  (39, 42, .goto 8, 47, 0, 0, .null, []),
  (42, 43, .aload_n 0, 0, 0, 0, .null, []),
  (43, 46, .getfield 210, 5, 21, 539, .null, []),
  (46, 47, .l2i, 0, 0, 0, .null, []),
  (47, 48, .ireturn, 0, 0, 0, .null, [])]
def sm_t133 : List sm_I := [(0, 1, .iload_n 1, 1, 0, 0, .null, []),
  (1, 2, .iconst 1, 0, 0, 0, .int (nI 1), []),
  (2, 4, .bipush 40, 0, 0, 0, .int (nI 40), []),
  (4, 7, .invokestatic 69, 79, 3, 621, .null, []),
  (7, 10, .ifCond .eq 16, 23, 0, 0, .null, []),
  (10, 11, .iload_n 2, 2, 0, 0, .null, []),
  (11, 14, .ifCond .lt 12, 23, 0, 0, .null, []),
  (14, 15, .iload_n 3, 3, 0, 0, .null, []),
  (15, 16, .iconst 0, 0, 0, 0, .int (nI 0), []),
  (16, 17, .iconst 1, 0, 0, 0, .int (nI 1), []),
  (17, 20, .invokestatic 69, 79, 3, 621, .null, []),
  (20, 23, .ifCond .ne 6, 26, 0, 0, .null, []),
  (23, 25, .bipush (-102), 0, 0, 0, .int (-102), []),
  (25, 26, .ireturn, 0, 0, 0, .null, []),
  (26, 27, .aload_n 0, 0, 0, 0, .null, []),
  (27, 30, .getfield 85, 5, 1, 519, .null, []),
  (30, 33, .ifCond .ne 8, 38, 0, 0, .null, []),
  (33, 35, .bipush (-103), 0, 0, 0, .int (-103), []),
  (35, 38, .goto 10, 45, 0, 0, .null, []),
  (38, 39, .aload_n 0, 0, 0, 0, .null, []),
  (39, 40, .iload_n 1, 1, 0, 0, .null, []),
  (40, 41, .iload_n 2, 2, 0, 0, .null, []),
  (41, 42, .iload_n 3, 3, 0, 0, .null, []),
  (42, 45, .invokevirtual 226, 132, 3, 822, .ref 5, []),
  (45, 46, .ireturn, 0, 0, 0, .null, [])]
def sm_t134 : List sm_I := [(0, 1, .aload_n 0, 0, 0, 0, .null, []),
  (1, 4, .getfield 85, 5, 1, 519, .null, []),
  (4, 7, .ifCond .ne 6, 10, 0, 0, .null, []),
  (7, 9, .bipush (-103), 0, 0, 0, .int (-103), []),
  (9, 10, .ireturn, 0, 0, 0, .null, []),
  (10, 11, .aload_n 0, 0, 0, 0, .null, []),
  (11, 12, .iconst 1, 0, 0, 0, .int (nI 1), []),
  (12, 15, .putfield 229, 5, 22, 540, .null, []),
  (15, 16, .aload_n 0, 0, 0, 0, .null, []),
  (16, 17, .aload_n 0, 0, 0, 0, .null, []),
  (17, 20, .getfield 88, 5, 0, 518, .null, []),
  (20, 23, .putfield 233, 5, 23, 541, .int 0, []),
  (23, 24, .aload_n 0, 0, 0, 0, .null, []),
  (24, 25, .aload_n 0, 0, 0, 0, .null, []),
  (25, 28, .getfield 91, 5, 3, 521, .null, []),
  (28, 31, .putfield 236, 5, 24, 542, .int 0, []),
  (31, 32, .aload_n 0, 0, 0, 0, .null, []),
  (32, 33, .aload_n 0, 0, 0, 0, .null, []),
  (33, 36, .getfield 94, 5, 7, 525, .null, []),
  (36, 39, .putfield 239, 5, 25, 543, .int 0, []),
  (39, 40, .iconst 0, 0, 0, 0, .int (nI 0), []),
  (40, 41, .istore_n 1, 1, 0, 0, .null, []),
  (41, 42, .iload_n 1, 1, 0, 0, .null, []),
  (42, 44, .bipush 6, 0, 0, 0, .int (nI 6), []),
  (44, 47, .if_icmp .ge 21, 65, 0, 0, .null, []),
  (47, 48, .aload_n 0, 0, 0, 0, .null, []),
  (48, 51, .getfield 54, 5, 26, 544, .null, []),
  (51, 52, .iload_n 1, 1, 0, 0, .null, []),
  (52, 53, .aload_n 0, 0, 0, 0, .null, []),
  (53, 56, .getfield 7, 5, 2, 520, .null, []),
  (56, 57, .iload_n 1, 1, 0, 0, .null, []),
  (57, 58, .iaload, 0, 0, 0, .null, []),
  (58, 59, .iastore, 0, 0, 0, .null, []),
  (59, 62, .iinc 1 1, 1, 0, 0, .int (nI 1), []),
  (62, 65, .goto (-21), 41, 0, 0, .null, []),
  (65, 66, .iconst 0, 0, 0, 0, .int (nI 0), []),
  (66, 67, .istore_n 1, 1, 0, 0, .null, []),
  (67, 68, .iload_n 1, 1, 0, 0, .null, []),
  (68, 69, .iconst 4, 0, 0, 0, .int (nI 4), []),
  (69, 72, .if_icmp .ge 21, 90, 0, 0, .null, []),
  (72, 73, .aload_n 0, 0, 0, 0, .null, []),
  (73, 76, .getfield 57, 5, 27, 545, .null, []),
  (76, 77, .iload_n 1, 1, 0, 0, .null, []),
  (77, 78, .aload_n 0, 0, 0, 0, .null, []),
  (78, 81, .getfield 19, 5, 6, 524, .null, []),
  (81, 82, .iload_n 1, 1, 0, 0, .null, []),
  (82, 83, .iaload, 0, 0, 0, .null, []),
  (83, 84, .iastore, 0, 0, 0, .null, []),
  (84, 87, .iinc 1 1, 1, 0, 0, .int (nI 1), []),
  (87, 90, .goto (-20), 67, 0, 0, .null, []),
  (90, 91, .iconst 0, 0, 0, 0, .int (nI 0), []),
  (91, 92, .istore_n 1, 1, 0, 0, .null, []),
  (92, 93, .iload_n 1, 1, 0, 0, .null, []),
  (93, 95, .bipush 10, 0, 0, 0, .int (nI 10), []),
  (95, 98, .if_icmp .ge 45, 140, 0, 0, .null, []),
  (98, 99, .aload_n 0, 0, 0, 0, .null, []),
  (99, 102, .getfield 60, 5, 28, 546, .null, []),
  (102, 103, .iload_n 1, 1, 0, 0, .null, []),
  (103, 104, .aload_n 0, 0, 0, 0, .null, []),
  (104, 107, .getfield 22, 5, 8, 526, .null, []),
  (107, 108, .iload_n 1, 1, 0, 0, .null, []),
  (108, 109, .iaload, 0, 0, 0, .null, []),
  (109, 110, .iastore, 0, 0, 0, .null, []),
  (110, 111, .aload_n 0, 0, 0, 0, .null, []),
  (111, 114, .getfield 63, 5, 29, 547, .null, []),
  (114, 115, .iload_n 1, 1, 0, 0, .null, []),
  (115, 116, .aload_n 0, 0, 0, 0, .null, []),
  (116, 119, .getfield 25, 5, 9, 527, .null, []),
  (119, 120, .iload_n 1, 1, 0, 0, .null, []),
  (120, 121, .iaload, 0, 0, 0, .null, []),
  (121, 122, .iastore, 0, 0, 0, .null, []),
  (122, 123, .aload_n 0, 0, 0, 0, .null, []),
  (123, 126, .getfield 66, 5, 30, 548, .null, []),
  (126, 127, .iload_n 1, 1, 0, 0, .null, []),
  (127, 128, .aload_n 0, 0, 0, 0, .null, []),
  (128, 131, .getfield 28, 5, 10, 528, .null, []),
  (131, 132, .iload_n 1, 1, 0, 0, .null, []),
  (132, 133, .iaload, 0, 0, 0, .null, []),
  (133, 134, .iastore, 0, 0, 0, .null, []),
  (134, 137, .iinc 1 1, 1, 0, 0, .int (nI 1), []),
  (137, 140, .goto (-45), 92, 0, 0, .null, []),
  (140, 141, .aload_n 0, 0, 0, 0, .null, []),
  (141, 144, .getfield 91, 5, 3, 521, .null, []),
  (144, 145, .ireturn, 0, 0, 0, .null, [])]
def sm_t135 : List sm_I := [(0, 1, .aload_n 0, 0, 0, 0, .null, []),
  (1, 4, .getfield 229, 5, 22, 540, .null, []),
  (4, 7, .ifCond .eq 14, 18, 0, 0, .null, []),
  (7, 8, .aload_n 0, 0, 0, 0, .null, []),
  (8, 11, .getfield 233, 5, 23, 541, .null, []),
  (11, 12, .aload_n 0, 0, 0, 0, .null, []),
  (12, 15, .getfield 88, 5, 0, 518, .null, []),
  (15, 18, .if_icmp .eq 6, 21, 0, 0, .null, []),
  (18, 20, .bipush (-103), 0, 0, 0, .int (-103), []),
  (20, 21, .ireturn, 0, 0, 0, .null, []),
  (21, 22, .aload_n 0, 0, 0, 0, .null, []),
  (22, 23, .aload_n 0, 0, 0, 0, .null, []),
  (23, 26, .getfield 236, 5, 24, 542, .null, []),
  (26, 29, .putfield 91, 5, 3, 521, .int 0, []),
  (29, 30, .aload_n 0, 0, 0, 0, .null, []),
  (30, 31, .aload_n 0, 0, 0, 0, .null, []),
  (31, 34, .getfield 239, 5, 25, 543, .null, []),
  (34, 37, .putfield 94, 5, 7, 525, .int 0, []),
  (37, 38, .iconst 0, 0, 0, 0, .int (nI 0), []),
  (38, 39, .istore_n 1, 1, 0, 0, .null, []),
  (39, 40, .iload_n 1, 1, 0, 0, .null, []),
  (40, 42, .bipush 6, 0, 0, 0, .int (nI 6), []),
  (42, 45, .if_icmp .ge 21, 63, 0, 0, .null, []),
  (45, 46, .aload_n 0, 0, 0, 0, .null, []),
  (46, 49, .getfield 7, 5, 2, 520, .null, []),
  (49, 50, .iload_n 1, 1, 0, 0, .null, []),
  (50, 51, .aload_n 0, 0, 0, 0, .null, []),
  (51, 54, .getfield 54, 5, 26, 544, .null, []),
  (54, 55, .iload_n 1, 1, 0, 0, .null, []),
  (55, 56, .iaload, 0, 0, 0, .null, []),
  (56, 57, .iastore, 0, 0, 0, .null, []),
  (57, 60, .iinc 1 1, 1, 0, 0, .int (nI 1), []),
  (60, 63, .goto (-21), 39, 0, 0, .null, []),
  (63, 64, .iconst 0, 0, 0, 0, .int (nI 0), []),
  (64, 65, .istore_n 1, 1, 0, 0, .null, []),
  (65, 66, .iload_n 1, 1, 0, 0, .null, []),
  (66, 67, .iconst 4, 0, 0, 0, .int (nI 4), []),
  (67, 70, .if_icmp .ge 21, 88, 0, 0, .null, []),
  (70, 71, .aload_n 0, 0, 0, 0, .null, []),
  (71, 74, .getfield 19, 5, 6, 524, .null, []),
  (74, 75, .iload_n 1, 1, 0, 0, .null, []),
  (75, 76, .aload_n 0, 0, 0, 0, .null, []),
  (76, 79, .getfield 57, 5, 27, 545, .null, []),
  (79, 80, .iload_n 1, 1, 0, 0, .null, []),
  (80, 81, .iaload, 0, 0, 0, .null, []),
  (81, 82, .iastore, 0, 0, 0, .null, []),
  (82, 85, .iinc 1 1, 1, 0, 0, .int (nI 1), []),
  (85, 88, .goto (-20), 65, 0, 0, .null, []),
  (88, 89, .iconst 0, 0, 0, 0, .int (nI 0), []),
  (89, 90, .istore_n 1, 1, 0, 0, .null, []),
  (90, 91, .iload_n 1, 1, 0, 0, .null, []),
  (91, 93, .bipush 10, 0, 0, 0, .int (nI 10), []),
  (93, 96, .if_icmp .ge 45, 138, 0, 0, .null, []),
  (96, 97, .aload_n 0, 0, 0, 0, .null, []),
  (97, 100, .getfield 22, 5, 8, 526, .null, []),
  (100, 101, .iload_n 1, 1, 0, 0, .null, []),
  (101, 102, .aload_n 0, 0, 0, 0, .null, []),
  (102, 105, .getfield 60, 5, 28, 546, .null, []),
  (105, 106, .iload_n 1, 1, 0, 0, .null, []),
  (106, 107, .iaload, 0, 0, 0, .null, []),
  (107, 108, .iastore, 0, 0, 0, .null, []),
  (108, 109, .aload_n 0, 0, 0, 0, .null, []),
  (109, 112, .getfield 25, 5, 9, 527, .null, []),
  (112, 113, .iload_n 1, 1, 0, 0, .null, []),
  (113, 114, .aload_n 0, 0, 0, 0, .null, []),
  (114, 117, .getfield 63, 5, 29, 547, .null, []),
  (117, 118, .iload_n 1, 1, 0, 0, .null, []),
  (118, 119, .iaload, 0, 0, 0, .null, []),
  (119, 120, .iastore, 0, 0, 0, .null, []),
  (120, 121, .aload_n 0, 0, 0, 0, .null, []),
  (121, 124, .getfield 28, 5, 10, 528, .null, []),
  (124, 125, .iload_n 1, 1, 0, 0, .null, []),
  (125, 126, .aload_n 0, 0, 0, 0, .null, []),
  (126, 129, .getfield 66, 5, 30, 548, .null, []),
  (129, 130, .iload_n 1, 1, 0, 0, .null, []),
  (130, 131, .iaload, 0, 0, 0, .null, []),
  (131, 132, .iastore, 0, 0, 0, .null, []),
  (132, 135, .iinc 1 1, 1, 0, 0, .int (nI 1), []),
  (135, 138, .goto (-45), 90, 0, 0, .null, []),
  (138, 139, .aload_n 0, 0, 0, 0, .null, []),
  (139, 142, .getfield 91, 5, 3, 521, .null, []),
  (142, 143, .ireturn, 0, 0, 0, .null, [])]
def sm_t136 : List sm_I := [(0, 1, .iload_n 1, 1, 0, 0, .null, []),
  (1, 44, .tableswitch 83 0 6 #[43, 48, 58, 63, 68, 73, 78], 84, 43, 0, .null, [((nI 0), 44), ((nI 1), 49), ((nI 2), 59), ((nI 3), 64), ((nI 4), 69), ((nI 5), 74), ((nI 6), 79)]),
  (44, 45, .aload_n 0, 0, 0, 0, .null, []),
  (45, 48, .getfield 85, 5, 1, 519, .null, []),
  (48, 49, .ireturn, 0, 0, 0, .null, []),
  (49, 50, .aload_n 0, 0, 0, 0, .null, []),
  (50, 53, .getfield 85, 5, 1, 519, .null, []),
  (53, 54, .aload_n 0, 0, 0, 0, .null, []),
  (54, 57, .invokevirtual 121, 101, 0, 708, .ref 5, []),
  (57, 58, .isub, 0, 0, 0, .null, []),
  (58, 59, .ireturn, 0, 0, 0, .null, []),
  (59, 60, .aload_n 0, 0, 0, 0, .null, []),
  (60, 63, .getfield 91, 5, 3, 521, .null, []),
  (63, 64, .ireturn, 0, 0, 0, .null, []),
  (64, 65, .aload_n 0, 0, 0, 0, .null, []),
  (65, 68, .getfield 94, 5, 7, 525, .null, []),
  (68, 69, .ireturn, 0, 0, 0, .null, []),
  (69, 70, .aload_n 0, 0, 0, 0, .null, []),
  (70, 73, .getfield 73, 5, 12, 530, .null, []),
  (73, 74, .ireturn, 0, 0, 0, .null, []),
  (74, 75, .aload_n 0, 0, 0, 0, .null, []),
  (75, 78, .getfield 88, 5, 0, 518, .null, []),
  (78, 79, .ireturn, 0, 0, 0, .null, []),
  (79, 80, .aload_n 0, 0, 0, 0, .null, []),
  (80, 83, .getfield 152, 5, 11, 529, .null, []),
  (83, 84, .ireturn, 0, 0, 0, .null, []),
  (84, 86, .bipush (-102), 0, 0, 0, .int (-102), []),
  (86, 87, .ireturn, 0, 0, 0, .null, [])]
def sm_t137 : List sm_I := [(0, 1, .aload_n 0, 0, 0, 0, .null, []),
  (1, 2, .iload_n 1, 1, 0, 0, .null, []),
  (2, 5, .invokevirtual 242, 136, 1, 850, .ref 5, []),
  (5, 6, .ireturn, 0, 0, 0, .null, [])]
def sm_t138 : List sm_I := [(0, 1, .aload_n 0, 0, 0, 0, .null, []),
  (1, 4, .ldc2_w 245, 0, 0, 867, .long (lN 31), []),
  (4, 5, .aload_n 0, 0, 0, 0, .null, []),
  (5, 8, .getfield 247, 5, 31, 549, .null, []),
  (8, 9, .lmul, 0, 0, 0, .null, []),
  (9, 10, .lload_n 1, 1, 0, 0, .null, []),
  (10, 11, .ladd, 0, 0, 0, .null, []),
  (11, 14, .putfield 247, 5, 31, 549, .long 0, []),
  (14, 15, .return_, 0, 0, 0, .null, [])]
def sm_t139 : List sm_I := [(0, 1, .iconst 0, 0, 0, 0, .int (nI 0), []),
  (1, 2, .istore_n 2, 2, 0, 0, .null, []),
  (2, 3, .iload_n 2, 2, 0, 0, .null, []),
  (3, 5, .bipush 14, 0, 0, 0, .int (nI 14), []),
  (5, 8, .if_icmp .ge 31, 36, 0, 0, .null, []),
  (8, 9, .iload_n 2, 2, 0, 0, .null, []),
  (9, 10, .iconst 4, 0, 0, 0, .int (nI 4), []),
  (10, 13, .if_icmp .lt 9, 19, 0, 0, .null, []),
  (13, 14, .iload_n 2, 2, 0, 0, .null, []),
  (14, 16, .bipush 9, 0, 0, 0, .int (nI 9), []),
  (16, 19, .if_icmp .le 14, 30, 0, 0, .null, []),
  (19, 20, .aload_n 0, 0, 0, 0, .null, []),
  (20, 21, .aload_n 0, 0, 0, 0, .null, []),
  (21, 22, .iload_n 1, 1, 0, 0, .null, []),
  (22, 23, .iload_n 2, 2, 0, 0, .null, []),
  (23, 26, .invokevirtual 118, 95, 2, 666, .ref 5, []),
  (26, 27, .i2l, 0, 0, 0, .null, []),
  (27, 30, .invokevirtual 250, 138, 1, 863, .ref 5, []),
  (30, 33, .iinc 2 1, 2, 0, 0, .int (nI 1), []),
  (33, 36, .goto (-31), 2, 0, 0, .null, []),
  (36, 37, .iconst 0, 0, 0, 0, .int (nI 0), []),
  (37, 38, .istore_n 2, 2, 0, 0, .null, []),
  (38, 39, .iload_n 2, 2, 0, 0, .null, []),
  (39, 40, .aload_n 0, 0, 0, 0, .null, []),
  (40, 43, .getfield 85, 5, 1, 519, .null, []),
  (43, 46, .if_icmp .ge 20, 63, 0, 0, .null, []),
  (46, 47, .aload_n 0, 0, 0, 0, .null, []),
  (47, 48, .aload_n 0, 0, 0, 0, .null, []),
  (48, 49, .iload_n 1, 1, 0, 0, .null, []),
  (49, 50, .iload_n 2, 2, 0, 0, .null, []),
  (50, 53, .invokevirtual 140, 108, 2, 728, .ref 5, []),
  (53, 54, .i2l, 0, 0, 0, .null, []),
  (54, 57, .invokevirtual 250, 138, 1, 863, .ref 5, []),
  (57, 60, .iinc 2 1, 2, 0, 0, .int (nI 1), []),
  (60, 63, .goto (-22), 38, 0, 0, .null, []),
  (63, 64, .return_, 0, 0, 0, .null, [])]
def sm_t140 : List sm_I := [(0, 1, .aload_n 0, 0, 0, 0, .null, []),
  (1, 4, .ldc2_w 254, 0, 0, 858, .long (lN 823), []),
  (4, 7, .putfield 247, 5, 31, 549, .long 0, []),
  (7, 8, .iconst 0, 0, 0, 0, .int (nI 0), []),
  (8, 9, .istore_n 1, 1, 0, 0, .null, []),
  (9, 10, .iload_n 1, 1, 0, 0, .null, []),
  (10, 11, .aload_n 0, 0, 0, 0, .null, []),
  (11, 14, .getfield 91, 5, 3, 521, .null, []),
  (14, 17, .if_icmp .ge 14, 28, 0, 0, .null, []),
  (17, 18, .aload_n 0, 0, 0, 0, .null, []),
  (18, 19, .iload_n 1, 1, 0, 0, .null, []),
  (19, 22, .invokevirtual 256, 139, 1, 859, .ref 5, []),
  (22, 25, .iinc 1 1, 1, 0, 0, .int (nI 1), []),
  (25, 28, .goto (-16), 9, 0, 0, .null, []),
  (28, 29, .iconst 0, 0, 0, 0, .int (nI 0), []),
  (29, 30, .istore_n 1, 1, 0, 0, .null, []),
  (30, 31, .iload_n 1, 1, 0, 0, .null, []),
  (31, 32, .aload_n 0, 0, 0, 0, .null, []),
  (32, 35, .getfield 85, 5, 1, 519, .null, []),
  (35, 38, .if_icmp .ge 19, 54, 0, 0, .null, []),
  (38, 39, .aload_n 0, 0, 0, 0, .null, []),
  (39, 40, .aload_n 0, 0, 0, 0, .null, []),
  (40, 41, .iload_n 1, 1, 0, 0, .null, []),
  (41, 44, .invokevirtual 143, 110, 1, 736, .ref 5, []),
  (44, 45, .i2l, 0, 0, 0, .null, []),
  (45, 48, .invokevirtual 250, 138, 1, 863, .ref 5, []),
  (48, 51, .iinc 1 1, 1, 0, 0, .int (nI 1), []),
  (51, 54, .goto (-21), 30, 0, 0, .null, []),
  (54, 55, .aload_n 0, 0, 0, 0, .null, []),
  (55, 58, .getfield 85, 5, 1, 519, .null, []),
  (58, 61, .ifCond .le 12, 70, 0, 0, .null, []),
  (61, 62, .aload_n 0, 0, 0, 0, .null, []),
  (62, 63, .aload_n 0, 0, 0, 0, .null, []),
  (63, 66, .invokevirtual 137, 106, 0, 700, .ref 5, []),
  (66, 67, .i2l, 0, 0, 0, .null, []),
  (67, 70, .invokevirtual 250, 138, 1, 863, .ref 5, []),
  (70, 71, .iconst 0, 0, 0, 0, .int (nI 0), []),
  (71, 72, .istore_n 1, 1, 0, 0, .null, []),
  (72, 73, .iload_n 1, 1, 0, 0, .null, []),
  (73, 74, .aload_n 0, 0, 0, 0, .null, []),
  (74, 77, .getfield 73, 5, 12, 530, .null, []),
  (77, 80, .if_icmp .ge 20, 97, 0, 0, .null, []),
  (80, 81, .aload_n 0, 0, 0, 0, .null, []),
  (81, 82, .aload_n 0, 0, 0, 0, .null, []),
  (82, 85, .getfield 31, 5, 13, 531, .null, []),
  (85, 86, .iload_n 1, 1, 0, 0, .null, []),
  (86, 87, .baload, 0, 0, 0, .null, []),
  (87, 88, .i2l, 0, 0, 0, .null, []),
  (88, 91, .invokevirtual 250, 138, 1, 863, .ref 5, []),
  (91, 94, .iinc 1 1, 1, 0, 0, .int (nI 1), []),
  (94, 97, .goto (-22), 72, 0, 0, .null, []),
  (97, 98, .iconst 0, 0, 0, 0, .int (nI 0), []),
  (98, 99, .istore_n 1, 1, 0, 0, .null, []),
  (99, 100, .iload_n 1, 1, 0, 0, .null, []),
  (100, 102, .bipush 7, 0, 0, 0, .int (nI 7), []),
  (102, 105, .if_icmp .ge 19, 121, 0, 0, .null, []),
  (105, 106, .aload_n 0, 0, 0, 0, .null, []),
  (106, 107, .aload_n 0, 0, 0, 0, .null, []),
  (107, 108, .iload_n 1, 1, 0, 0, .null, []),
  (108, 111, .invokevirtual 242, 136, 1, 850, .ref 5, []),
  (111, 112, .i2l, 0, 0, 0, .null, []),
  (112, 115, .invokevirtual 250, 138, 1, 863, .ref 5, []),
  (115, 118, .iinc 1 1, 1, 0, 0, .int (nI 1), []),
  (118, 121, .goto (-19), 99, 0, 0, .null, []),
  (121, 122, .aload_n 0, 0, 0, 0, .null, []),
  (122, 125, .getfield 247, 5, 31, 549, .null, []),
  (125, 126, .lreturn, 0, 0, 0, .null, [])]
def sm_t141 : List sm_I := [(0, 1, .iload_n 0, 0, 0, 0, .null, []),
  (1, 2, .iload_n 0, 0, 0, 0, .null, []),
  (2, 3, .iconst 1, 0, 0, 0, .int (nI 1), []),
  (3, 4, .iushr, 0, 0, 0, .null, []),
  (4, 7, .ldc_w 265, 0, 0, 385, .int (nI 1431655765), []),
  (7, 8, .iand, 0, 0, 0, .null, []),
  (8, 9, .isub, 0, 0, 0, .null, []),
  (9, 10, .istore_n 0, 0, 0, 0, .null, []),
  (10, 11, .iload_n 0, 0, 0, 0, .null, []),
  (11, 14, .ldc_w 266, 0, 0, 386, .int (nI 858993459), []),
  (14, 15, .iand, 0, 0, 0, .null, []),
  (15, 16, .iload_n 0, 0, 0, 0, .null, []),
  (16, 17, .iconst 2, 0, 0, 0, .int (nI 2), []),
  (17, 18, .iushr, 0, 0, 0, .null, []),
  (18, 21, .ldc_w 266, 0, 0, 386, .int (nI 858993459), []),
  (21, 22, .iand, 0, 0, 0, .null, []),
  (22, 23, .iadd, 0, 0, 0, .null, []),
  (23, 24, .istore_n 0, 0, 0, 0, .null, []),
  (24, 25, .iload_n 0, 0, 0, 0, .null, []),
  (25, 26, .iload_n 0, 0, 0, 0, .null, []),
  (26, 27, .iconst 4, 0, 0, 0, .int (nI 4), []),
  (27, 28, .iushr, 0, 0, 0, .null, []),
  (28, 29, .iadd, 0, 0, 0, .null, []),
  (29, 32, .ldc_w 267, 0, 0, 387, .int (nI 252645135), []),
  (32, 33, .iand, 0, 0, 0, .null, []),
  (33, 34, .istore_n 0, 0, 0, 0, .null, []),
  (34, 35, .iload_n 0, 0, 0, 0, .null, []),
  (35, 36, .iload_n 0, 0, 0, 0, .null, []),
  (36, 38, .bipush 8, 0, 0, 0, .int (nI 8), []),
  (38, 39, .iushr, 0, 0, 0, .null, []),
  (39, 40, .iadd, 0, 0, 0, .null, []),
  (40, 41, .istore_n 0, 0, 0, 0, .null, []),
  (41, 42, .iload_n 0, 0, 0, 0, .null, []),
  (42, 43, .iload_n 0, 0, 0, 0, .null, []),
  (43, 45, .bipush 16, 0, 0, 0, .int (nI 16), []),
  (45, 46, .iushr, 0, 0, 0, .null, []),
  (46, 47, .iadd, 0, 0, 0, .null, []),
  (47, 48, .istore_n 0, 0, 0, 0, .null, []),
  (48, 49, .iload_n 0, 0, 0, 0, .null, []),
  (49, 51, .bipush 63, 0, 0, 0, .int (nI 63), []),
  (51, 52, .iand, 0, 0, 0, .null, []),
  (52, 53, .ireturn, 0, 0, 0, .null, [])]
def sm_t142 : List sm_I := [(0, 1, .iload_n 0, 0, 0, 0, .null, []),
  (1, 2, .iload_n 1, 1, 0, 0, .null, []),
  (2, 5, .if_icmp .lt 7, 9, 0, 0, .null, []),
  (5, 6, .iload_n 0, 0, 0, 0, .null, []),
  (6, 9, .goto 4, 10, 0, 0, .null, []),
  (9, 10, .iload_n 1, 1, 0, 0, .null, []),
  (10, 11, .ireturn, 0, 0, 0, .null, [])]
def sm_t143 : List sm_I := [(16, 17, .iconst 0, 0, 0, 0, .int (nI 0), []),
  (17, 18, .istore_n 3, 3, 0, 0, .null, []),
  (18, 19, .iload_n 3, 3, 0, 0, .null, []),
  (19, 20, .aload_n 0, 0, 0, 0, .null, []),
  (20, 21, .arraylength, 0, 0, 0, .null, []),
  (21, 22, .iconst 4, 0, 0, 0, .int (nI 4), []),
  (22, 23, .isub, 0, 0, 0, .null, []),
  (23, 26, .if_icmp .gt 723, 746, 0, 0, .null, []),
  (26, 27, .aload_n 0, 0, 0, 0, .null, []),
  (27, 28, .iload_n 3, 3, 0, 0, .null, []),
  (28, 29, .iaload, 0, 0, 0, .null, []),
  (29, 31, .bipush 31, 0, 0, 0, .int (nI 31), []),
  (31, 32, .iand, 0, 0, 0, .null, []),
  (32, 140, .tableswitch 708 0 22 #[108, 131, 144, 157, 170, 203, 246, 279, 312, 345, 388, 401, 414, 447, 470, 493, 526, 559, 602, 645, 658, 671, 694], 740, 108, 0, .null, [((nI 0), 140), ((nI 1), 163), ((nI 2), 176), ((nI 3), 189), ((nI 4), 202), ((nI 5), 235), ((nI 6), 278), ((nI 7), 311), ((nI 8), 344), ((nI 9), 377), ((nI 10), 420), ((nI 11), 433), ((nI 12), 446), ((nI 13), 479), ((nI 14), 502), ((nI 15), 525), ((nI 16), 558), ((nI 17), 591), ((nI 18), 634), ((nI 19), 677), ((nI 20), 690), ((nI 21), 703), ((nI 22), 726)]),
  (140, 141, .aload_n 1, 1, 0, 0, .null, []),
  (141, 142, .aload_n 0, 0, 0, 0, .null, []),
  (142, 143, .iload_n 3, 3, 0, 0, .null, []),
  (143, 144, .iconst 1, 0, 0, 0, .int (nI 1), []),
  (144, 145, .iadd, 0, 0, 0, .null, []),
  (145, 146, .iaload, 0, 0, 0, .null, []),
  (146, 149, .invokevirtual 13, 42, 1, 199, .ref 4, []),
  (149, 150, .aload_n 2, 2, 0, 0, .null, []),
  (150, 151, .aload_n 0, 0, 0, 0, .null, []),
  (151, 152, .iload_n 3, 3, 0, 0, .null, []),
  (152, 153, .iconst 1, 0, 0, 0, .int (nI 1), []),
  (153, 154, .iadd, 0, 0, 0, .null, []),
  (154, 155, .iaload, 0, 0, 0, .null, []),
  (155, 158, .invokevirtual 17, 82, 1, 617, .ref 5, []),
  (158, 161, .if_icmp .eq 582, 740, 0, 0, .null, []),
  (161, 162, .iconst 0, 0, 0, 0, .int (nI 0), []),
  (162, 163, .ireturn, 0, 1, 0, .null, []),
  (163, 164, .aload_n 1, 1, 0, 0, .null, []),
  (164, 167, .invokevirtual 18, 43, 0, 207, .ref 4, []),
  (167, 168, .aload_n 2, 2, 0, 0, .null, []),
  (168, 171, .invokevirtual 22, 83, 0, 624, .ref 5, []),
  (171, 174, .if_icmp .eq 569, 740, 0, 0, .null, []),
  (174, 175, .iconst 0, 0, 0, 0, .int (nI 0), []),
  (175, 176, .ireturn, 0, 1, 0, .null, []),
  (176, 177, .aload_n 1, 1, 0, 0, .null, []),
  (177, 180, .invokevirtual 23, 44, 0, 211, .ref 4, []),
  (180, 181, .aload_n 2, 2, 0, 0, .null, []),
  (181, 184, .invokevirtual 26, 86, 0, 628, .ref 5, []),
  (184, 187, .if_icmp .eq 556, 740, 0, 0, .null, []),
  (187, 188, .iconst 0, 0, 0, 0, .int (nI 0), []),
  (188, 189, .ireturn, 0, 1, 0, .null, []),
  (189, 190, .aload_n 1, 1, 0, 0, .null, []),
  (190, 193, .invokevirtual 27, 45, 0, 225, .ref 4, []),
  (193, 194, .aload_n 2, 2, 0, 0, .null, []),
  (194, 197, .invokevirtual 30, 87, 0, 639, .ref 5, []),
  (197, 200, .if_icmp .eq 543, 740, 0, 0, .null, []),
  (200, 201, .iconst 0, 0, 0, 0, .int (nI 0), []),
  (201, 202, .ireturn, 0, 1, 0, .null, []),
  (202, 203, .aload_n 1, 1, 0, 0, .null, []),
  (203, 204, .aload_n 0, 0, 0, 0, .null, []),
  (204, 205, .iload_n 3, 3, 0, 0, .null, []),
  (205, 206, .iconst 1, 0, 0, 0, .int (nI 1), []),
  (206, 207, .iadd, 0, 0, 0, .null, []),
  (207, 208, .iaload, 0, 0, 0, .null, []),
  (208, 209, .aload_n 0, 0, 0, 0, .null, []),
  (209, 210, .iload_n 3, 3, 0, 0, .null, []),
  (210, 211, .iconst 2, 0, 0, 0, .int (nI 2), []),
  (211, 212, .iadd, 0, 0, 0, .null, []),
  (212, 213, .iaload, 0, 0, 0, .null, []),
  (213, 216, .invokevirtual 31, 46, 2, 238, .ref 4, []),
  (216, 217, .aload_n 2, 2, 0, 0, .null, []),
  (217, 218, .aload_n 0, 0, 0, 0, .null, []),
  (218, 219, .iload_n 3, 3, 0, 0, .null, []),
  (219, 220, .iconst 1, 0, 0, 0, .int (nI 1), []),
  (220, 221, .iadd, 0, 0, 0, .null, []),
  (221, 222, .iaload, 0, 0, 0, .null, []),
  (222, 223, .aload_n 0, 0, 0, 0, .null, []),
  (223, 224, .iload_n 3, 3, 0, 0, .null, []),
  (224, 225, .iconst 2, 0, 0, 0, .int (nI 2), []),
  (225, 226, .iadd, 0, 0, 0, .null, []),
  (226, 227, .iaload, 0, 0, 0, .null, []),
  (227, 230, .invokevirtual 35, 90, 2, 643, .ref 5, []),
  (230, 233, .if_icmp .eq 510, 740, 0, 0, .null, []),
  (233, 234, .iconst 0, 0, 0, 0, .int (nI 0), []),
  (234, 235, .ireturn, 0, 1, 0, .null, []),
  (235, 236, .aload_n 1, 1, 0, 0, .null, []),
  (236, 237, .aload_n 0, 0, 0, 0, .null, []),
  (237, 238, .iload_n 3, 3, 0, 0, .null, []),
  (238, 239, .iconst 1, 0, 0, 0, .int (nI 1), []),
  (239, 240, .iadd, 0, 0, 0, .null, []),
  (240, 241, .iaload, 0, 0, 0, .null, []),
  (241, 242, .aload_n 0, 0, 0, 0, .null, []),
  (242, 243, .iload_n 3, 3, 0, 0, .null, []),
  (243, 244, .iconst 2, 0, 0, 0, .int (nI 2), []),
  (244, 245, .iadd, 0, 0, 0, .null, []),
  (245, 246, .iaload, 0, 0, 0, .null, []),
  (246, 247, .aload_n 0, 0, 0, 0, .null, []),
  (247, 248, .iload_n 3, 3, 0, 0, .null, []),
  (248, 249, .iconst 3, 0, 0, 0, .int (nI 3), []),
  (249, 250, .iadd, 0, 0, 0, .null, []),
  (250, 251, .iaload, 0, 0, 0, .null, []),
  (251, 254, .invokevirtual 36, 47, 3, 249, .ref 4, []),
  (254, 255, .aload_n 2, 2, 0, 0, .null, []),
  (255, 256, .aload_n 0, 0, 0, 0, .null, []),
  (256, 257, .iload_n 3, 3, 0, 0, .null, []),
  (257, 258, .iconst 1, 0, 0, 0, .int (nI 1), []),
  (258, 259, .iadd, 0, 0, 0, .null, []),
  (259, 260, .iaload, 0, 0, 0, .null, []),
  (260, 261, .aload_n 0, 0, 0, 0, .null, []),
  (261, 262, .iload_n 3, 3, 0, 0, .null, []),
  (262, 263, .iconst 2, 0, 0, 0, .int (nI 2), []),
  (263, 264, .iadd, 0, 0, 0, .null, []),
  (264, 265, .iaload, 0, 0, 0, .null, []),
  (265, 266, .aload_n 0, 0, 0, 0, .null, []),
  (266, 267, .iload_n 3, 3, 0, 0, .null, []),
  (267, 268, .iconst 3, 0, 0, 0, .int (nI 3), []),
  (268, 269, .iadd, 0, 0, 0, .null, []),
  (269, 270, .iaload, 0, 0, 0, .null, []),
  (270, 273, .invokevirtual 40, 93, 3, 651, .ref 5, []),
  (273, 276, .if_icmp .eq 467, 740, 0, 0, .null, []),
  (276, 277, .iconst 0, 0, 0, 0, .int (nI 0), []),
  (277, 278, .ireturn, 0, 1, 0, .null, []),
  (278, 279, .aload_n 1, 1, 0, 0, .null, []),
  (279, 280, .aload_n 0, 0, 0, 0, .null, []),
  (280, 281, .iload_n 3, 3, 0, 0, .null, []),
  (281, 282, .iconst 1, 0, 0, 0, .int (nI 1), []),
  (282, 283, .iadd, 0, 0, 0, .null, []),
  (283, 284, .iaload, 0, 0, 0, .null, []),
  (284, 285, .aload_n 0, 0, 0, 0, .null, []),
  (285, 286, .iload_n 3, 3, 0, 0, .null, []),
  (286, 287, .iconst 2, 0, 0, 0, .int (nI 2), []),
  (287, 288, .iadd, 0, 0, 0, .null, []),
  (288, 289, .iaload, 0, 0, 0, .null, []),
  (289, 292, .invokevirtual 41, 48, 2, 263, .ref 4, []),
  (292, 293, .aload_n 2, 2, 0, 0, .null, []),
  (293, 294, .aload_n 0, 0, 0, 0, .null, []),
  (294, 295, .iload_n 3, 3, 0, 0, .null, []),
  (295, 296, .iconst 1, 0, 0, 0, .int (nI 1), []),
  (296, 297, .iadd, 0, 0, 0, .null, []),
  (297, 298, .iaload, 0, 0, 0, .null, []),
  (298, 299, .aload_n 0, 0, 0, 0, .null, []),
  (299, 300, .iload_n 3, 3, 0, 0, .null, []),
  (300, 301, .iconst 2, 0, 0, 0, .int (nI 2), []),
  (301, 302, .iadd, 0, 0, 0, .null, []),
  (302, 303, .iaload, 0, 0, 0, .null, []),
  (303, 306, .invokevirtual 44, 96, 2, 658, .ref 5, []),
  (306, 309, .if_icmp .eq 434, 740, 0, 0, .null, []),
  (309, 310, .iconst 0, 0, 0, 0, .int (nI 0), []),
  (310, 311, .ireturn, 0, 1, 0, .null, []),
  (311, 312, .aload_n 1, 1, 0, 0, .null, []),
  (312, 313, .aload_n 0, 0, 0, 0, .null, []),
  (313, 314, .iload_n 3, 3, 0, 0, .null, []),
  (314, 315, .iconst 1, 0, 0, 0, .int (nI 1), []),
  (315, 316, .iadd, 0, 0, 0, .null, []),
  (316, 317, .iaload, 0, 0, 0, .null, []),
  (317, 318, .aload_n 0, 0, 0, 0, .null, []),
  (318, 319, .iload_n 3, 3, 0, 0, .null, []),
  (319, 320, .iconst 2, 0, 0, 0, .int (nI 2), []),
  (320, 321, .iadd, 0, 0, 0, .null, []),
  (321, 322, .iaload, 0, 0, 0, .null, []),
  (322, 325, .invokevirtual 45, 49, 2, 277, .ref 4, []),
  (325, 326, .aload_n 2, 2, 0, 0, .null, []),
  (326, 327, .aload_n 0, 0, 0, 0, .null, []),
  (327, 328, .iload_n 3, 3, 0, 0, .null, []),
  (328, 329, .iconst 1, 0, 0, 0, .int (nI 1), []),
  (329, 330, .iadd, 0, 0, 0, .null, []),
  (330, 331, .iaload, 0, 0, 0, .null, []),
  (331, 332, .aload_n 0, 0, 0, 0, .null, []),
  (332, 333, .iload_n 3, 3, 0, 0, .null, []),
  (333, 334, .iconst 2, 0, 0, 0, .int (nI 2), []),
  (334, 335, .iadd, 0, 0, 0, .null, []),
  (335, 336, .iaload, 0, 0, 0, .null, []),
  (336, 339, .invokevirtual 48, 97, 2, 680, .ref 5, []),
  (339, 342, .if_icmp .eq 401, 740, 0, 0, .null, []),
  (342, 343, .iconst 0, 0, 0, 0, .int (nI 0), []),
  (343, 344, .ireturn, 0, 1, 0, .null, []),
  (344, 345, .aload_n 1, 1, 0, 0, .null, []),
  (345, 346, .aload_n 0, 0, 0, 0, .null, []),
  (346, 347, .iload_n 3, 3, 0, 0, .null, []),
  (347, 348, .iconst 1, 0, 0, 0, .int (nI 1), []),
  (348, 349, .iadd, 0, 0, 0, .null, []),
  (349, 350, .iaload, 0, 0, 0, .null, []),
  (350, 351, .aload_n 0, 0, 0, 0, .null, []),
  (351, 352, .iload_n 3, 3, 0, 0, .null, []),
  (352, 353, .iconst 2, 0, 0, 0, .int (nI 2), []),
  (353, 354, .iadd, 0, 0, 0, .null, []),
  (354, 355, .iaload, 0, 0, 0, .null, []),
  (355, 358, .invokevirtual 49, 50, 2, 284, .ref 4, []),
  (358, 359, .aload_n 2, 2, 0, 0, .null, []),
  (359, 360, .aload_n 0, 0, 0, 0, .null, []),
  (360, 361, .iload_n 3, 3, 0, 0, .null, []),
  (361, 362, .iconst 1, 0, 0, 0, .int (nI 1), []),
  (362, 363, .iadd, 0, 0, 0, .null, []),
  (363, 364, .iaload, 0, 0, 0, .null, []),
  (364, 365, .aload_n 0, 0, 0, 0, .null, []),
  (365, 366, .iload_n 3, 3, 0, 0, .null, []),
  (366, 367, .iconst 2, 0, 0, 0, .int (nI 2), []),
  (367, 368, .iadd, 0, 0, 0, .null, []),
  (368, 369, .iaload, 0, 0, 0, .null, []),
  (369, 372, .invokevirtual 52, 98, 2, 684, .ref 5, []),
  (372, 375, .if_icmp .eq 368, 740, 0, 0, .null, []),
  (375, 376, .iconst 0, 0, 0, 0, .int (nI 0), []),
  (376, 377, .ireturn, 0, 1, 0, .null, []),
  (377, 378, .aload_n 1, 1, 0, 0, .null, []),
  (378, 379, .aload_n 0, 0, 0, 0, .null, []),
  (379, 380, .iload_n 3, 3, 0, 0, .null, []),
  (380, 381, .iconst 1, 0, 0, 0, .int (nI 1), []),
  (381, 382, .iadd, 0, 0, 0, .null, []),
  (382, 383, .iaload, 0, 0, 0, .null, []),
  (383, 384, .aload_n 0, 0, 0, 0, .null, []),
  (384, 385, .iload_n 3, 3, 0, 0, .null, []),
  (385, 386, .iconst 2, 0, 0, 0, .int (nI 2), []),
  (386, 387, .iadd, 0, 0, 0, .null, []),
  (387, 388, .iaload, 0, 0, 0, .null, []),
  (388, 389, .aload_n 0, 0, 0, 0, .null, []),
  (389, 390, .iload_n 3, 3, 0, 0, .null, []),
  (390, 391, .iconst 3, 0, 0, 0, .int (nI 3), []),
  (391, 392, .iadd, 0, 0, 0, .null, []),
  (392, 393, .iaload, 0, 0, 0, .null, []),
  (393, 396, .invokevirtual 53, 51, 3, 288, .ref 4, []),
  (396, 397, .aload_n 2, 2, 0, 0, .null, []),
  (397, 398, .aload_n 0, 0, 0, 0, .null, []),
  (398, 399, .iload_n 3, 3, 0, 0, .null, []),
  (399, 400, .iconst 1, 0, 0, 0, .int (nI 1), []),
  (400, 401, .iadd, 0, 0, 0, .null, []),
  (401, 402, .iaload, 0, 0, 0, .null, []),
  (402, 403, .aload_n 0, 0, 0, 0, .null, []),
  (403, 404, .iload_n 3, 3, 0, 0, .null, []),
  (404, 405, .iconst 2, 0, 0, 0, .int (nI 2), []),
  (405, 406, .iadd, 0, 0, 0, .null, []),
  (406, 407, .iaload, 0, 0, 0, .null, []),
  (407, 408, .aload_n 0, 0, 0, 0, .null, []),
  (408, 409, .iload_n 3, 3, 0, 0, .null, []),
  (409, 410, .iconst 3, 0, 0, 0, .int (nI 3), []),
  (410, 411, .iadd, 0, 0, 0, .null, []),
  (411, 412, .iaload, 0, 0, 0, .null, []),
  (412, 415, .invokevirtual 56, 99, 3, 688, .ref 5, []),
  (415, 418, .if_icmp .eq 325, 740, 0, 0, .null, []),
  (418, 419, .iconst 0, 0, 0, 0, .int (nI 0), []),
  (419, 420, .ireturn, 0, 1, 0, .null, []),
  (420, 421, .aload_n 1, 1, 0, 0, .null, []),
  (421, 424, .invokevirtual 57, 52, 0, 296, .ref 4, []),
  (424, 425, .aload_n 2, 2, 0, 0, .null, []),
  (425, 428, .invokevirtual 60, 100, 0, 692, .ref 5, []),
  (428, 431, .if_icmp .eq 312, 740, 0, 0, .null, []),
  (431, 432, .iconst 0, 0, 0, 0, .int (nI 0), []),
  (432, 433, .ireturn, 0, 1, 0, .null, []),
  (433, 434, .aload_n 1, 1, 0, 0, .null, []),
  (434, 437, .invokevirtual 61, 53, 0, 301, .ref 4, []),
  (437, 438, .aload_n 2, 2, 0, 0, .null, []),
  (438, 441, .invokevirtual 64, 107, 0, 696, .ref 5, []),
  (441, 444, .if_icmp .eq 299, 740, 0, 0, .null, []),
  (444, 445, .iconst 0, 0, 0, 0, .int (nI 0), []),
  (445, 446, .ireturn, 0, 1, 0, .null, []),
  (446, 447, .aload_n 1, 1, 0, 0, .null, []),
  (447, 448, .aload_n 0, 0, 0, 0, .null, []),
  (448, 449, .iload_n 3, 3, 0, 0, .null, []),
  (449, 450, .iconst 1, 0, 0, 0, .int (nI 1), []),
  (450, 451, .iadd, 0, 0, 0, .null, []),
  (451, 452, .iaload, 0, 0, 0, .null, []),
  (452, 453, .aload_n 0, 0, 0, 0, .null, []),
  (453, 454, .iload_n 3, 3, 0, 0, .null, []),
  (454, 455, .iconst 2, 0, 0, 0, .int (nI 2), []),
  (455, 456, .iadd, 0, 0, 0, .null, []),
  (456, 457, .iaload, 0, 0, 0, .null, []),
  (457, 460, .invokevirtual 65, 54, 2, 334, .ref 4, []),
  (460, 461, .aload_n 2, 2, 0, 0, .null, []),
  (461, 462, .aload_n 0, 0, 0, 0, .null, []),
  (462, 463, .iload_n 3, 3, 0, 0, .null, []),
  (463, 464, .iconst 1, 0, 0, 0, .int (nI 1), []),
  (464, 465, .iadd, 0, 0, 0, .null, []),
  (465, 466, .iaload, 0, 0, 0, .null, []),
  (466, 467, .aload_n 0, 0, 0, 0, .null, []),
  (467, 468, .iload_n 3, 3, 0, 0, .null, []),
  (468, 469, .iconst 2, 0, 0, 0, .int (nI 2), []),
  (469, 470, .iadd, 0, 0, 0, .null, []),
  (470, 471, .iaload, 0, 0, 0, .null, []),
  (471, 474, .invokevirtual 68, 109, 2, 724, .ref 5, []),
  (474, 477, .if_icmp .eq 266, 740, 0, 0, .null, []),
  (477, 478, .iconst 0, 0, 0, 0, .int (nI 0), []),
  (478, 479, .ireturn, 0, 1, 0, .null, []),
  (479, 480, .aload_n 1, 1, 0, 0, .null, []),
  (480, 481, .aload_n 0, 0, 0, 0, .null, []),
  (481, 482, .iload_n 3, 3, 0, 0, .null, []),
  (482, 483, .iconst 1, 0, 0, 0, .int (nI 1), []),
  (483, 484, .iadd, 0, 0, 0, .null, []),
  (484, 485, .iaload, 0, 0, 0, .null, []),
  (485, 488, .invokevirtual 69, 55, 1, 345, .ref 4, []),
  (488, 489, .aload_n 2, 2, 0, 0, .null, []),
  (489, 490, .aload_n 0, 0, 0, 0, .null, []),
  (490, 491, .iload_n 3, 3, 0, 0, .null, []),
  (491, 492, .iconst 1, 0, 0, 0, .int (nI 1), []),
  (492, 493, .iadd, 0, 0, 0, .null, []),
  (493, 494, .iaload, 0, 0, 0, .null, []),
  (494, 497, .invokevirtual 72, 111, 1, 732, .ref 5, []),
  (497, 500, .if_icmp .eq 243, 740, 0, 0, .null, []),
  (500, 501, .iconst 0, 0, 0, 0, .int (nI 0), []),
  (501, 502, .ireturn, 0, 1, 0, .null, []),
  (502, 503, .aload_n 1, 1, 0, 0, .null, []),
  (503, 504, .aload_n 0, 0, 0, 0, .null, []),
  (504, 505, .iload_n 3, 3, 0, 0, .null, []),
  (505, 506, .iconst 1, 0, 0, 0, .int (nI 1), []),
  (506, 507, .iadd, 0, 0, 0, .null, []),
  (507, 508, .iaload, 0, 0, 0, .null, []),
  (508, 511, .invokevirtual 73, 56, 1, 353, .ref 4, []),
  (511, 512, .aload_n 2, 2, 0, 0, .null, []),
  (512, 513, .aload_n 0, 0, 0, 0, .null, []),
  (513, 514, .iload_n 3, 3, 0, 0, .null, []),
  (514, 515, .iconst 1, 0, 0, 0, .int (nI 1), []),
  (515, 516, .iadd, 0, 0, 0, .null, []),
  (516, 517, .iaload, 0, 0, 0, .null, []),
  (517, 520, .invokevirtual 76, 116, 1, 740, .ref 5, []),
  (520, 523, .if_icmp .eq 220, 740, 0, 0, .null, []),
  (523, 524, .iconst 0, 0, 0, 0, .int (nI 0), []),
  (524, 525, .ireturn, 0, 1, 0, .null, []),
  (525, 526, .aload_n 1, 1, 0, 0, .null, []),
  (526, 527, .aload_n 0, 0, 0, 0, .null, []),
  (527, 528, .iload_n 3, 3, 0, 0, .null, []),
  (528, 529, .iconst 1, 0, 0, 0, .int (nI 1), []),
  (529, 530, .iadd, 0, 0, 0, .null, []),
  (530, 531, .iaload, 0, 0, 0, .null, []),
  (531, 532, .aload_n 0, 0, 0, 0, .null, []),
  (532, 533, .iload_n 3, 3, 0, 0, .null, []),
  (533, 534, .iconst 2, 0, 0, 0, .int (nI 2), []),
  (534, 535, .iadd, 0, 0, 0, .null, []),
  (535, 536, .iaload, 0, 0, 0, .null, []),
  (536, 539, .invokevirtual 77, 57, 2, 374, .ref 4, []),
  (539, 540, .aload_n 2, 2, 0, 0, .null, []),
  (540, 541, .aload_n 0, 0, 0, 0, .null, []),
  (541, 542, .iload_n 3, 3, 0, 0, .null, []),
  (542, 543, .iconst 1, 0, 0, 0, .int (nI 1), []),
  (543, 544, .iadd, 0, 0, 0, .null, []),
  (544, 545, .iaload, 0, 0, 0, .null, []),
  (545, 546, .aload_n 0, 0, 0, 0, .null, []),
  (546, 547, .iload_n 3, 3, 0, 0, .null, []),
  (547, 548, .iconst 2, 0, 0, 0, .int (nI 2), []),
  (548, 549, .iadd, 0, 0, 0, .null, []),
  (549, 550, .iaload, 0, 0, 0, .null, []),
  (550, 553, .invokevirtual 80, 121, 2, 760, .ref 5, []),
  (553, 556, .if_icmp .eq 187, 740, 0, 0, .null, []),
  (556, 557, .iconst 0, 0, 0, 0, .int (nI 0), []),
  (557, 558, .ireturn, 0, 1, 0, .null, []),
  (558, 559, .aload_n 1, 1, 0, 0, .null, []),
  (559, 560, .aload_n 0, 0, 0, 0, .null, []),
  (560, 561, .iload_n 3, 3, 0, 0, .null, []),
  (561, 562, .iconst 1, 0, 0, 0, .int (nI 1), []),
  (562, 563, .iadd, 0, 0, 0, .null, []),
  (563, 564, .iaload, 0, 0, 0, .null, []),
  (564, 565, .aload_n 0, 0, 0, 0, .null, []),
  (565, 566, .iload_n 3, 3, 0, 0, .null, []),
  (566, 567, .iconst 2, 0, 0, 0, .int (nI 2), []),
  (567, 568, .iadd, 0, 0, 0, .null, []),
  (568, 569, .iaload, 0, 0, 0, .null, []),
  (569, 572, .invokevirtual 81, 58, 2, 418, .ref 4, []),
  (572, 573, .aload_n 2, 2, 0, 0, .null, []),
  (573, 574, .aload_n 0, 0, 0, 0, .null, []),
  (574, 575, .iload_n 3, 3, 0, 0, .null, []),
  (575, 576, .iconst 1, 0, 0, 0, .int (nI 1), []),
  (576, 577, .iadd, 0, 0, 0, .null, []),
  (577, 578, .iaload, 0, 0, 0, .null, []),
  (578, 579, .aload_n 0, 0, 0, 0, .null, []),
  (579, 580, .iload_n 3, 3, 0, 0, .null, []),
  (580, 581, .iconst 2, 0, 0, 0, .int (nI 2), []),
  (581, 582, .iadd, 0, 0, 0, .null, []),
  (582, 583, .iaload, 0, 0, 0, .null, []),
  (583, 586, .invokevirtual 84, 124, 2, 786, .ref 5, []),
  (586, 589, .if_icmp .eq 154, 740, 0, 0, .null, []),
  (589, 590, .iconst 0, 0, 0, 0, .int (nI 0), []),
  (590, 591, .ireturn, 0, 1, 0, .null, []),
  (591, 592, .aload_n 1, 1, 0, 0, .null, []),
  (592, 593, .aload_n 0, 0, 0, 0, .null, []),
  (593, 594, .iload_n 3, 3, 0, 0, .null, []),
  (594, 595, .iconst 1, 0, 0, 0, .int (nI 1), []),
  (595, 596, .iadd, 0, 0, 0, .null, []),
  (596, 597, .iaload, 0, 0, 0, .null, []),
  (597, 598, .aload_n 0, 0, 0, 0, .null, []),
  (598, 599, .iload_n 3, 3, 0, 0, .null, []),
  (599, 600, .iconst 2, 0, 0, 0, .int (nI 2), []),
  (600, 601, .iadd, 0, 0, 0, .null, []),
  (601, 602, .iaload, 0, 0, 0, .null, []),
  (602, 603, .aload_n 0, 0, 0, 0, .null, []),
  (603, 604, .iload_n 3, 3, 0, 0, .null, []),
  (604, 605, .iconst 3, 0, 0, 0, .int (nI 3), []),
  (605, 606, .iadd, 0, 0, 0, .null, []),
  (606, 607, .iaload, 0, 0, 0, .null, []),
  (607, 610, .invokevirtual 85, 59, 3, 441, .ref 4, []),
  (610, 611, .aload_n 2, 2, 0, 0, .null, []),
  (611, 612, .aload_n 0, 0, 0, 0, .null, []),
  (612, 613, .iload_n 3, 3, 0, 0, .null, []),
  (613, 614, .iconst 1, 0, 0, 0, .int (nI 1), []),
  (614, 615, .iadd, 0, 0, 0, .null, []),
  (615, 616, .iaload, 0, 0, 0, .null, []),
  (616, 617, .aload_n 0, 0, 0, 0, .null, []),
  (617, 618, .iload_n 3, 3, 0, 0, .null, []),
  (618, 619, .iconst 2, 0, 0, 0, .int (nI 2), []),
  (619, 620, .iadd, 0, 0, 0, .null, []),
  (620, 621, .iaload, 0, 0, 0, .null, []),
  (621, 622, .aload_n 0, 0, 0, 0, .null, []),
  (622, 623, .iload_n 3, 3, 0, 0, .null, []),
  (623, 624, .iconst 3, 0, 0, 0, .int (nI 3), []),
  (624, 625, .iadd, 0, 0, 0, .null, []),
  (625, 626, .iaload, 0, 0, 0, .null, []),
  (626, 629, .invokevirtual 88, 129, 3, 798, .ref 5, []),
  (629, 632, .if_icmp .eq 111, 740, 0, 0, .null, []),
  (632, 633, .iconst 0, 0, 0, 0, .int (nI 0), []),
  (633, 634, .ireturn, 0, 1, 0, .null, []),
  (634, 635, .aload_n 1, 1, 0, 0, .null, []),
  (635, 636, .aload_n 0, 0, 0, 0, .null, []),
  (636, 637, .iload_n 3, 3, 0, 0, .null, []),
  (637, 638, .iconst 1, 0, 0, 0, .int (nI 1), []),
  (638, 639, .iadd, 0, 0, 0, .null, []),
  (639, 640, .iaload, 0, 0, 0, .null, []),
  (640, 641, .aload_n 0, 0, 0, 0, .null, []),
  (641, 642, .iload_n 3, 3, 0, 0, .null, []),
  (642, 643, .iconst 2, 0, 0, 0, .int (nI 2), []),
  (643, 644, .iadd, 0, 0, 0, .null, []),
  (644, 645, .iaload, 0, 0, 0, .null, []),
  (645, 646, .aload_n 0, 0, 0, 0, .null, []),
  (646, 647, .iload_n 3, 3, 0, 0, .null, []),
  (647, 648, .iconst 3, 0, 0, 0, .int (nI 3), []),
  (648, 649, .iadd, 0, 0, 0, .null, []),
  (649, 650, .iaload, 0, 0, 0, .null, []),
  (650, 653, .invokevirtual 89, 60, 3, 461, .ref 4, []),
  (653, 654, .aload_n 2, 2, 0, 0, .null, []),
  (654, 655, .aload_n 0, 0, 0, 0, .null, []),
  (655, 656, .iload_n 3, 3, 0, 0, .null, []),
  (656, 657, .iconst 1, 0, 0, 0, .int (nI 1), []),
  (657, 658, .iadd, 0, 0, 0, .null, []),
  (658, 659, .iaload, 0, 0, 0, .null, []),
  (659, 660, .aload_n 0, 0, 0, 0, .null, []),
  (660, 661, .iload_n 3, 3, 0, 0, .null, []),
  (661, 662, .iconst 2, 0, 0, 0, .int (nI 2), []),
  (662, 663, .iadd, 0, 0, 0, .null, []),
  (663, 664, .iaload, 0, 0, 0, .null, []),
  (664, 665, .aload_n 0, 0, 0, 0, .null, []),
  (665, 666, .iload_n 3, 3, 0, 0, .null, []),
  (666, 667, .iconst 3, 0, 0, 0, .int (nI 3), []),
  (667, 668, .iadd, 0, 0, 0, .null, []),
  (668, 669, .iaload, 0, 0, 0, .null, []),
  (669, 672, .invokevirtual 92, 133, 3, 818, .ref 5, []),
  (672, 675, .if_icmp .eq 68, 740, 0, 0, .null, []),
  (675, 676, .iconst 0, 0, 0, 0, .int (nI 0), []),
  (676, 677, .ireturn, 0, 1, 0, .null, []),
  (677, 678, .aload_n 1, 1, 0, 0, .null, []),
  (678, 681, .invokevirtual 93, 61, 0, 477, .ref 4, []),
  (681, 682, .aload_n 2, 2, 0, 0, .null, []),
  (682, 685, .invokevirtual 96, 134, 0, 838, .ref 5, []),
  (685, 688, .if_icmp .eq 55, 740, 0, 0, .null, []),
  (688, 689, .iconst 0, 0, 0, 0, .int (nI 0), []),
  (689, 690, .ireturn, 0, 1, 0, .null, []),
  (690, 691, .aload_n 1, 1, 0, 0, .null, []),
  (691, 694, .invokevirtual 97, 62, 0, 485, .ref 4, []),
  (694, 695, .aload_n 2, 2, 0, 0, .null, []),
  (695, 698, .invokevirtual 100, 135, 0, 842, .ref 5, []),
  (698, 701, .if_icmp .eq 42, 740, 0, 0, .null, []),
  (701, 702, .iconst 0, 0, 0, 0, .int (nI 0), []),
  (702, 703, .ireturn, 0, 1, 0, .null, []),
  (703, 704, .aload_n 1, 1, 0, 0, .null, []),
  (704, 705, .aload_n 0, 0, 0, 0, .null, []),
  (705, 706, .iload_n 3, 3, 0, 0, .null, []),
  (706, 707, .iconst 1, 0, 0, 0, .int (nI 1), []),
  (707, 708, .iadd, 0, 0, 0, .null, []),
  (708, 709, .iaload, 0, 0, 0, .null, []),
  (709, 712, .invokevirtual 101, 63, 1, 489, .ref 4, []),
  (712, 713, .aload_n 2, 2, 0, 0, .null, []),
  (713, 714, .aload_n 0, 0, 0, 0, .null, []),
  (714, 715, .iload_n 3, 3, 0, 0, .null, []),
  (715, 716, .iconst 1, 0, 0, 0, .int (nI 1), []),
  (716, 717, .iadd, 0, 0, 0, .null, []),
  (717, 718, .iaload, 0, 0, 0, .null, []),
  (718, 721, .invokevirtual 104, 137, 1, 846, .ref 5, []),
  (721, 724, .if_icmp .eq 19, 740, 0, 0, .null, []),
  (724, 725, .iconst 0, 0, 0, 0, .int (nI 0), []),
  (725, 726, .ireturn, 0, 1, 0, .null, []),
  (726, 727, .aload_n 1, 1, 0, 0, .null, []),
  (727, 730, .invokevirtual 105, 64, 0, 497, .ref 4, []),
  (730, 731, .aload_n 2, 2, 0, 0, .null, []),
  (731, 734, .invokevirtual 109, 140, 0, 854, .ref 5, []),
  (734, 735, .lcmp, 0, 0, 0, .null, []),
  (735, 738, .ifCond .eq 5, 740, 0, 0, .null, []),
  (738, 739, .iconst 0, 0, 0, 0, .int (nI 0), []),
  (739, 740, .ireturn, 0, 1, 0, .null, []),
  (740, 743, .iinc 3 4, 3, 0, 0, .int (nI 4), []),
  (743, 746, .goto (-725), 18, 0, 0, .null, []),
  (746, 747, .iconst 1, 0, 0, 0, .int (nI 1), []),
  (747, 748, .ireturn, 0, 1, 0, .null, [])]
def sm_ms : List sm_M := [(yX0_init, cX0_init, 1, none, sm_t0, 84, 83, 0, 48),
  (yX0_hasHour, cX0_hasHour, 2, (some FieldType.boolean), sm_t1, 245, 243, 244, 48),
  (yX0_hasVane, cX0_hasVane, 2, (some FieldType.boolean), sm_t2, 270, 268, 269, 48),
  (yX0_begin, cX0_begin, 3, none, sm_t3, 232, 230, 231, 48),
  (yX0_raise, cX0_raise, 4, none, sm_t4, 262, 260, 261, 48),
  (yX0_witness, cX0_witness, 4, none, sm_t5, 295, 293, 294, 48),
  (yX0_clearSeen, cX0_clearSeen, 2, none, sm_t6, 237, 235, 236, 48),
  (yX0_become, cX0_become, 3, none, sm_t7, 484, 482, 483, 48),
  (yX0_knownWinds, cX0_knownWinds, 3, (some FieldType.int), sm_t8, 496, 494, 495, 48),
  (yX0_isKnownUntil, cX0_isKnownUntil, 3, (some FieldType.boolean), sm_t9, 448, 446, 447, 48),
  (yX0_mayBlow, cX0_mayBlow, 3, (some FieldType.boolean), sm_t10, 320, 318, 319, 48),
  (yX0_turned, cX0_turned, 4, (some FieldType.int), sm_t11, 273, 272, 0, 48),
  (yX0_nudged, cX0_nudged, 3, (some FieldType.int), sm_t12, 276, 275, 0, 48),
  (yX0_startPose, cX0_startPose, 3, (some FieldType.int), sm_t13, 312, 310, 311, 48),
  (yX0_turnedPose, cX0_turnedPose, 5, (some FieldType.int), sm_t14, 324, 322, 323, 48),
  (yX0_agrees, cX0_agrees, 5, (some FieldType.boolean), sm_t15, 329, 327, 328, 48),
  (yX0_hasFitting, cX0_hasFitting, 1, (some FieldType.boolean), sm_t16, 429, 427, 428, 48),
  (yX0_canFit, cX0_canFit, 5, (some FieldType.boolean), sm_t17, 434, 433, 9, 48),
  (yX0_pointWith, cX0_pointWith, 6, (some FieldType.int), sm_t18, 456, 454, 455, 48),
  (yX0_pointingAt, cX0_pointingAt, 5, (some FieldType.int), sm_t19, 476, 474, 475, 48),
  (yX0_isMoreThanHalf, cX0_isMoreThanHalf, 2, (some FieldType.boolean), sm_t20, 460, 458, 459, 48),
  (yX1_init, cX1_init, 1, none, sm_t21, 66, 65, 0, 47),
  (yX1_add, cX1_add, 2, (some FieldType.boolean), sm_t22, 206, 204, 205, 47),
  (yX1_firstFault, cX1_firstFault, 2, (some FieldType.int), sm_t23, 218, 216, 217, 47),
  (yX1_isOfDay, cX1_isOfDay, 1, (some FieldType.boolean), sm_t24, 221, 220, 0, 47),
  (yX1_windOf, cX1_windOf, 1, (some FieldType.int), sm_t25, 224, 223, 0, 47),
  (yX2_init, cX2_init, 2, none, sm_t26, 130, 129, 0, 49),
  (yX2_refresh, cX2_refresh, 2, none, sm_t27, 308, 306, 307, 49),
  (yX2_walk, cX2_walk, 7, (some FieldType.int), sm_t28, 316, 315, 0, 49),
  (yX2_note, cX2_note, 6, none, sm_t29, 333, 332, 1, 49),
  (yX2_pointed, cX2_pointed, 3, (some FieldType.int), sm_t30, 341, 339, 340, 49),
  (yX2_blown, cX2_blown, 2, (some FieldType.int), sm_t31, 352, 350, 351, 49),
  (yX2_bitsOf, cX2_bitsOf, 4, (some FieldType.int), sm_t32, 344, 343, 0, 49),
  (yX2_worst, cX2_worst, 6, (some FieldType.int), sm_t33, 369, 367, 368, 49),
  (yX2_bestPlace, cX2_bestPlace, 6, (some FieldType.int), sm_t34, 364, 362, 363, 49),
  (yX3_init, cX3_init, 2, none, sm_t35, 154, 153, 0, 50),
  (yX3_tell, cX3_tell, 4, (some FieldType.boolean), sm_t36, 394, 392, 393, 50),
  (yX3_isTold, cX3_isTold, 4, (some FieldType.boolean), sm_t37, 399, 398, 4, 50),
  (yX3_isOneWind, cX3_isOneWind, 4, (some FieldType.boolean), sm_t38, 403, 402, 5, 50),
  (yX3_fillNext, cX3_fillNext, 7, (some FieldType.int), sm_t39, 407, 406, 6, 50),
  (yX3_blow, cX3_blow, 9, none, sm_t40, 413, 412, 7, 50),
  (yX4_init, cX4_init, 1, none, sm_t41, 58, 57, 0, 46),
  (yX4_letter, cX4_letter, 2, (some FieldType.int), sm_t42, 202, 200, 201, 46),
  (yX4_blank, cX4_blank, 2, (some FieldType.int), sm_t43, 210, 208, 209, 46),
  (yX4_fault, cX4_fault, 1, (some FieldType.int), sm_t44, 214, 212, 213, 46),
  (yX4_day, cX4_day, 1, (some FieldType.int), sm_t45, 228, 226, 227, 46),
  (yX4_wind, cX4_wind, 4, (some FieldType.int), sm_t46, 241, 239, 240, 46),
  (yX4_vane, cX4_vane, 4, (some FieldType.int), sm_t47, 252, 250, 251, 46),
  (yX4_about, cX4_about, 3, (some FieldType.int), sm_t48, 266, 264, 265, 46),
  (yX4_as, cX4_as, 3, (some FieldType.int), sm_t49, 280, 278, 279, 46),
  (yX4_oil, cX4_oil, 4, (some FieldType.int), sm_t50, 287, 285, 286, 46),
  (yX4_see, cX4_see, 4, (some FieldType.int), sm_t51, 291, 289, 290, 46),
  (yX4_forget, cX4_forget, 2, (some FieldType.int), sm_t52, 299, 297, 298, 46),
  (yX4_fitting, cX4_fitting, 1, (some FieldType.int), sm_t53, 304, 302, 303, 46),
  (yX4_points, cX4_points, 3, (some FieldType.int), sm_t54, 337, 335, 336, 46),
  (yX4_blows, cX4_blows, 2, (some FieldType.int), sm_t55, 348, 346, 347, 46),
  (yX4_ask, cX4_ask, 5, (some FieldType.int), sm_t56, 356, 354, 355, 46),
  (yX4_proof, cX4_proof, 3, (some FieldType.int), sm_t57, 377, 375, 376, 46),
  (yX4_sorts, cX4_sorts, 4, (some FieldType.int), sm_t58, 421, 419, 420, 46),
  (yX4_oiling, cX4_oiling, 4, (some FieldType.int), sm_t59, 444, 442, 443, 46),
  (yX4_gusts, cX4_gusts, 10, (some FieldType.int), sm_t60, 464, 462, 463, 46),
  (yX4_image, cX4_image, 1, (some FieldType.int), sm_t61, 480, 478, 479, 46),
  (yX4_restore, cX4_restore, 1, (some FieldType.int), sm_t62, 488, 486, 487, 46),
  (yX4_count, cX4_count, 2, (some FieldType.int), sm_t63, 492, 490, 491, 46),
  (yX4_digest, cX4_digest, 4, (some FieldType.long), sm_t64, 500, 498, 499, 46),
  (yX4_digestOfVane, cX4_digestOfVane, 7, (some FieldType.long), sm_t65, 505, 504, 11, 46),
  (yX4_isInquiryClosed, cX4_isInquiryClosed, 1, (some FieldType.boolean), sm_t66, 360, 359, 2, 46),
  (yX4_fewestWitnesses, cX4_fewestWitnesses, 4, (some FieldType.int), sm_t67, 381, 380, 3, 46),
  (yX4_possibleSorts, cX4_possibleSorts, 6, (some FieldType.int), sm_t68, 425, 424, 8, 46),
  (yX4_leastOf, cX4_leastOf, 2, (some FieldType.int), sm_t69, 440, 439, 0, 46),
  (yX4_fewestToOil, cX4_fewestToOil, 8, (some FieldType.int), sm_t70, 452, 451, 10, 46),
  (yX4_isFewer, cX4_isFewer, 2, (some FieldType.boolean), sm_t71, 390, 389, 0, 46),
  (yX4_sizeOrSet, cX4_sizeOrSet, 2, (some FieldType.int), sm_t72, 417, 416, 0, 46),
  (yX4_isQuarter, cX4_isQuarter, 1, (some FieldType.boolean), sm_t73, 248, 247, 0, 46),
  (yX4_isTwist, cX4_isTwist, 1, (some FieldType.boolean), sm_t74, 258, 257, 0, 46),
  (yX4_isKind, cX4_isKind, 1, (some FieldType.boolean), sm_t75, 255, 254, 0, 46),
  (yX4_isSuch, cX4_isSuch, 2, (some FieldType.boolean), sm_t76, 283, 282, 0, 46),
  (yX4_nextSeed, cX4_nextSeed, 1, (some FieldType.int), sm_t77, 468, 467, 0, 46),
  (yX5_init, cX5_init, 1, none, sm_t78, 516, 515, 0, 51),
  (yX5_within, cX5_within, 3, (some FieldType.boolean), sm_t79, 623, 622, 0, 51),
  (yX5_isQuarter, cX5_isQuarter, 1, (some FieldType.boolean), sm_t80, 657, 656, 0, 51),
  (yX5_size, cX5_size, 3, (some FieldType.int), sm_t81, 770, 769, 0, 51),
  (yX5_letter, cX5_letter, 2, (some FieldType.int), sm_t82, 620, 618, 619, 51),
  (yX5_blank, cX5_blank, 2, (some FieldType.int), sm_t83, 627, 625, 626, 51),
  (yX5_windBy, cX5_windBy, 1, (some FieldType.int), sm_t84, 638, 637, 0, 51),
  (yX5_faultNow, cX5_faultNow, 2, (some FieldType.int), sm_t85, 635, 634, 12, 51),
  (yX5_fault, cX5_fault, 1, (some FieldType.int), sm_t86, 631, 629, 630, 51),
  (yX5_day, cX5_day, 2, (some FieldType.int), sm_t87, 642, 640, 641, 51),
  (yX5_isHour, cX5_isHour, 2, (some FieldType.boolean), sm_t88, 650, 649, 13, 51),
  (yX5_isVane, cX5_isVane, 2, (some FieldType.boolean), sm_t89, 665, 664, 14, 51),
  (yX5_wind, cX5_wind, 4, (some FieldType.int), sm_t90, 646, 644, 645, 51),
  (yX5_rusted, cX5_rusted, 4, (some FieldType.int), sm_t91, 679, 678, 0, 51),
  (yX5_turned, cX5_turned, 4, (some FieldType.int), sm_t92, 676, 675, 0, 51),
  (yX5_vane, cX5_vane, 4, (some FieldType.int), sm_t93, 654, 652, 653, 51),
  (yX5_seenOf, cX5_seenOf, 4, (some FieldType.int), sm_t94, 673, 672, 16, 51),
  (yX5_vaneNow, cX5_vaneNow, 3, (some FieldType.int), sm_t95, 669, 668, 15, 51),
  (yX5_about, cX5_about, 3, (some FieldType.int), sm_t96, 661, 659, 660, 51),
  (yX5_as, cX5_as, 4, (some FieldType.int), sm_t97, 683, 681, 682, 51),
  (yX5_oil, cX5_oil, 4, (some FieldType.int), sm_t98, 687, 685, 686, 51),
  (yX5_see, cX5_see, 4, (some FieldType.int), sm_t99, 691, 689, 690, 51),
  (yX5_forget, cX5_forget, 2, (some FieldType.int), sm_t100, 695, 693, 694, 51),
  (yX5_unknownHours, cX5_unknownHours, 3, (some FieldType.int), sm_t101, 711, 710, 19, 51),
  (yX5_codes, cX5_codes, 1, (some FieldType.int), sm_t102, 707, 706, 18, 51),
  (yX5_layDay, cX5_layDay, 5, none, sm_t103, 719, 718, 21, 51),
  (yX5_layVane, cX5_layVane, 4, none, sm_t104, 723, 722, 22, 51),
  (yX5_fits, cX5_fits, 4, (some FieldType.boolean), sm_t105, 715, 714, 20, 51),
  (yX5_fittingNow, cX5_fittingNow, 3, (some FieldType.int), sm_t106, 703, 702, 17, 51),
  (yX5_fitting, cX5_fitting, 1, (some FieldType.int), sm_t107, 699, 697, 698, 51),
  (yX5_pointsNow, cX5_pointsNow, 5, (some FieldType.int), sm_t108, 731, 730, 23, 51),
  (yX5_points, cX5_points, 3, (some FieldType.int), sm_t109, 727, 725, 726, 51),
  (yX5_blowsNow, cX5_blowsNow, 4, (some FieldType.int), sm_t110, 739, 738, 24, 51),
  (yX5_blows, cX5_blows, 2, (some FieldType.int), sm_t111, 735, 733, 734, 51),
  (yX5_layParts, cX5_layParts, 4, (some FieldType.int), sm_t112, 755, 754, 27, 51),
  (yX5_worstOf, cX5_worstOf, 4, (some FieldType.int), sm_t113, 759, 758, 28, 51),
  (yX5_askNow, cX5_askNow, 6, (some FieldType.int), sm_t114, 751, 750, 26, 51),
  (yX5_mayAsk, cX5_mayAsk, 1, (some FieldType.boolean), sm_t115, 747, 746, 25, 51),
  (yX5_ask, cX5_ask, 2, (some FieldType.int), sm_t116, 743, 741, 742, 51),
  (yX5_signOf, cX5_signOf, 6, (some FieldType.long), sm_t117, 778, 777, 31, 51),
  (yX5_placeOf, cX5_placeOf, 4, (some FieldType.int), sm_t118, 783, 782, 32, 51),
  (yX5_proves, cX5_proves, 8, (some FieldType.boolean), sm_t119, 774, 773, 30, 51),
  (yX5_proofNow, cX5_proofNow, 6, (some FieldType.int), sm_t120, 767, 766, 29, 51),
  (yX5_proof, cX5_proof, 3, (some FieldType.int), sm_t121, 763, 761, 762, 51),
  (yX5_anyFits, cX5_anyFits, 2, (some FieldType.boolean), sm_t122, 797, 796, 34, 51),
  (yX5_sortsNow, cX5_sortsNow, 9, (some FieldType.int), sm_t123, 793, 792, 33, 51),
  (yX5_sorts, cX5_sorts, 3, (some FieldType.int), sm_t124, 789, 787, 788, 51),
  (yX5_isKnownTill, cX5_isKnownTill, 4, (some FieldType.boolean), sm_t125, 805, 804, 35, 51),
  (yX5_pointBy, cX5_pointBy, 6, (some FieldType.int), sm_t126, 817, 816, 38, 51),
  (yX5_canBy, cX5_canBy, 6, (some FieldType.boolean), sm_t127, 813, 812, 37, 51),
  (yX5_oilingNow, cX5_oilingNow, 10, (some FieldType.int), sm_t128, 809, 808, 36, 51),
  (yX5_oiling, cX5_oiling, 4, (some FieldType.int), sm_t129, 801, 799, 800, 51),
  (yX5_draw, cX5_draw, 2, (some FieldType.int), sm_t130, 833, 832, 41, 51),
  (yX5_goDay, cX5_goDay, 5, (some FieldType.int), sm_t131, 829, 828, 40, 51),
  (yX5_gustsNow, cX5_gustsNow, 6, (some FieldType.int), sm_t132, 825, 824, 39, 51),
  (yX5_gusts, cX5_gusts, 4, (some FieldType.int), sm_t133, 821, 819, 820, 51),
  (yX5_image, cX5_image, 2, (some FieldType.int), sm_t134, 841, 839, 840, 51),
  (yX5_restore, cX5_restore, 2, (some FieldType.int), sm_t135, 845, 843, 844, 51),
  (yX5_howMany, cX5_howMany, 2, (some FieldType.int), sm_t136, 853, 852, 42, 51),
  (yX5_count, cX5_count, 2, (some FieldType.int), sm_t137, 849, 847, 848, 51),
  (yX5_mix, cX5_mix, 3, none, sm_t138, 866, 865, 44, 51),
  (yX5_mixVane, cX5_mixVane, 3, none, sm_t139, 862, 861, 43, 51),
  (yX5_digest, cX5_digest, 2, (some FieldType.long), sm_t140, 857, 855, 856, 51),
  (yJ6_bitCount_0f7a4, cJ6_bitCount_0f7a4, 1, (some FieldType.int), sm_t141, 384, 383, 0, 53),
  (yM_max, cM_max, 2, (some FieldType.int), sm_t142, 372, 371, 0, 52),
  (yL_law, cL_law, 4, (some .boolean), sm_t143, 0, 0, 0, 0)]
end
section
/-! What the rows of the simple machine say of the machine: contracts, contexts. -/
def sm_all : List Jvm.Cond := lw_tbl.filter goodWord
def sm_has (z : Nat) (w : Jvm.Cond) : Bool := decide (lw_tbl[z]? = some w) && goodWord w
theorem sm_has_in {z : Nat} {w : Jvm.Cond} (h : sm_has z w = true) : w ∈ sm_all := by
  simp only [sm_has, Bool.and_eq_true, decide_eq_true_eq] at h
  exact List.mem_filter.mpr ⟨List.mem_of_getElem? h.1, h.2⟩
theorem sm_all_good {w : Jvm.Cond} (h : w ∈ sm_all) : goodWord w = true := (List.mem_filter.mp h).2
def sm_m0 : sm_M := (⟨"", "", ""⟩, ⟨#[]⟩, 0, none, [], 0, 0, 0, 0)
def sm_m (j : Nat) : sm_M := match sm_nth sm_ms j with
  | some q => q
  | none => sm_m0
def sm_y (j : Nat) : MethodName := (sm_m j).1
def sm_code (j : Nat) : ByteArray := (sm_m j).2.1
def sm_max (j : Nat) : Nat := (sm_m j).2.2.1
def sm_ret (j : Nat) : Option FieldType := (sm_m j).2.2.2.1
def sm_tab (j : Nat) : List sm_I := (sm_m j).2.2.2.2.1
def sm_ws (j : Nat) : List Jvm.Cond := Jvm.Cond.code (sm_y j) (sm_code j) (sm_max j) (sm_ret j) :: sm_all
-- values, entries, heaps: a place k is the address ad k
def sm_rv (ad : Nat → Nat) : Value → Value
  | .ref a => .ref (ad a)
  | v => v
def sm_ra (ad : Nat → Nat) (a : vp_A) : vp_A := match a with
  | (n, .inr (.inr (.inr (.inr f)))) => (n, .inr (.inr (.inr (.inr (fun i => (f i).map ad)))))
  | a => a
def sm_re (G : Nat → ClassId) (ad : Nat → Nat) (e : sm_E) : va_E := match e with
  | .inl (t, a) => .inl (G t, sm_ra ad a)
  | .inr (c, fs) => .inr (c, fs.map (sm_rv ad))
def sm_rw (G : Nat → ClassId) (ad : Nat → Nat) (h : sm_H) : va_W := h.mapIdx fun k e => (ad k, sm_re G ad e)
def sm_tys (G : Nat → ClassId) : List (ClassId × FieldType) := [(G 0, .int), (G 1, .long), (G 2, .byte), (G 3, .array .int)]
theorem sm_rw_at {G : Nat → ClassId} {ad : Nat → Nat} {h : sm_H} {k : Nat} {e : sm_E} (hk : sm_nth h k = some e) : (sm_rw G ad h)[k]? = some (ad k, sm_re G ad e) := by
  rw [sm_nth_eq] at hk
  simp [sm_rw, List.getElem?_mapIdx, hk]
theorem sm_rw_len (G : Nat → ClassId) (ad : Nat → Nat) (h : sm_H) : (sm_rw G ad h).length = h.length := by simp [sm_rw]
theorem sm_rw_set (G : Nat → ClassId) (ad : Nat → Nat) (h : sm_H) (k : Nat) (e : sm_E) : sm_rw G ad (h.set k e) = (sm_rw G ad h).set k (ad k, sm_re G ad e) := by
  apply List.ext_getElem?
  intro i
  simp only [sm_rw, List.getElem?_mapIdx, List.getElem?_set, List.length_mapIdx]
  by_cases hi : k = i
  · subst hi
    by_cases hl : k < h.length <;> simp [hl]
  · simp [hi]
theorem sm_rv_cat (ad : Nat → Nat) (v : Value) : (sm_rv ad v).category = v.category := by cases v <;> rfl
-- locals
def sm_lo (ad : Nat → Nat) (n : Nat) (ls : sm_L) (lsA : Array Slot) : Prop := ∃ l, lv_has lsA n l ∧ ∀ i v, sm_get ls i = some v → (i, sm_rv ad v) ∈ l
theorem sm_lo_at {ad : Nat → Nat} {n : Nat} {ls : sm_L} {lsA : Array Slot} {i : Nat} {v : Value} (h : sm_lo ad n ls lsA) (hg : sm_get ls i = some v) : lsA[i]? = some (.val (sm_rv ad v)) := by
  obtain ⟨l, h1, h2⟩ := h
  exact h1.2.2 _ (h2 i v hg)
theorem sm_get_set (ls : sm_L) (k : Nat) (o : Option Value) (i : Nat) : sm_get (ls.set k o) i = if k = i then (if k < ls.length then o else none) else sm_get ls i := by
  unfold sm_get
  rw [sm_nth_eq, sm_nth_eq, List.getElem?_set]
  by_cases h : k = i
  · subst h
    by_cases h2 : k < ls.length <;> simp [h2]
  · simp [h]
theorem sm_set1 {ad : Nat → Nat} {ls : sm_L} {l : List (Nat × Value)} {x : Nat} {v : Value} (hv : ∀ i w, sm_get ls i = some w → (i, sm_rv ad w) ∈ l) (hp : ∀ j w, x = j + 1 → sm_get ls j = some w → w.category ≠ 2) :
    ∀ i w, sm_get (ls.set x (some v)) i = some w → (i, sm_rv ad w) ∈ (x, sm_rv ad v) :: l.filter (fun q => !(q.1 == x) && !(q.1 + 1 == x && q.2.category == 2)) := by
  intro i w hi
  rw [sm_get_set] at hi
  by_cases h : x = i
  · rw [if_pos h] at hi
    split at hi
    · cases hi
      rw [h]
      exact List.mem_cons_self
    · cases hi
  · rw [if_neg h] at hi
    refine List.mem_cons_of_mem _ (List.mem_filter.mpr ⟨hv i w hi, ?_⟩)
    have h1 : (i == x) = false := by simp; omega
    simp only [h1, Bool.not_false, Bool.true_and, Bool.not_eq_true', Bool.and_eq_false_iff, beq_eq_false_iff_ne]
    by_cases h2 : i + 1 = x
    · exact Or.inr (by rw [sm_rv_cat]; exact hp i w h2.symm hi)
    · exact Or.inl h2
theorem sm_set2 {ad : Nat → Nat} {ls : sm_L} {l : List (Nat × Value)} {x : Nat} {v : Value} (hv : ∀ i w, sm_get ls i = some w → (i, sm_rv ad w) ∈ l) (hp : ∀ j w, x = j + 1 → sm_get ls j = some w → w.category ≠ 2) :
    ∀ i w, sm_get ((ls.set x (some v)).set (x + 1) none) i = some w → (i, sm_rv ad w) ∈ (x, sm_rv ad v) :: l.filter (fun q => !(q.1 == x) && (!(q.1 == x + 1) && !(q.1 + 1 == x && q.2.category == 2))) := by
  intro i w hi
  rw [sm_get_set] at hi
  by_cases h0 : x + 1 = i
  · rw [if_pos h0] at hi
    split at hi <;> cases hi
  rw [if_neg h0, sm_get_set] at hi
  by_cases h : x = i
  · rw [if_pos h] at hi
    split at hi
    · cases hi
      rw [h]
      exact List.mem_cons_self
    · cases hi
  · rw [if_neg h] at hi
    refine List.mem_cons_of_mem _ (List.mem_filter.mpr ⟨hv i w hi, ?_⟩)
    have h1 : (i == x) = false := by simp; omega
    have h2 : (i == x + 1) = false := by simp; omega
    simp only [h1, h2, Bool.not_false, Bool.true_and, Bool.not_eq_true', Bool.and_eq_false_iff, beq_eq_false_iff_ne]
    by_cases h2 : i + 1 = x
    · exact Or.inr (by rw [sm_rv_cat]; exact hp i w h2.symm hi)
    · exact Or.inl h2
theorem sm_st1_inv {ls : sm_L} {x : Nat} {v : Value} {k : sm_L → Prop} (h : sm_st1 ls x v k) : k (ls.set x (some v)) ∧ ∀ j w, x = j + 1 → sm_get ls j = some w → w.category ≠ 2 := by
  cases x with
  | zero => exact ⟨h, fun j w h => by cases h⟩
  | succ n =>
    unfold sm_st1 at h
    dsimp only at h
    cases hg : sm_get ls n with
    | none =>
      rw [hg] at h
      exact ⟨h, fun j w h1 h2 => by cases h1; rw [hg] at h2; cases h2⟩
    | some u =>
      rw [hg] at h
      dsimp only at h
      cases hb : Nat.beq u.category 2 with
      | true => rw [hb] at h; exact False.elim h
      | false =>
        rw [hb] at h
        exact ⟨h, fun j w h1 h2 => by cases h1; rw [hg] at h2; cases h2; exact Nat.ne_of_beq_eq_false hb⟩
theorem sm_st2_inv {ls : sm_L} {x : Nat} {v : Value} {k : sm_L → Prop} (h : sm_st2 ls x v k) : k ((ls.set x (some v)).set (x + 1) none) ∧ ∀ j w, x = j + 1 → sm_get ls j = some w → w.category ≠ 2 := by
  cases x with
  | zero => exact ⟨h, fun j w h => by cases h⟩
  | succ n =>
    unfold sm_st2 at h
    dsimp only at h
    cases hg : sm_get ls n with
    | none =>
      rw [hg] at h
      exact ⟨h, fun j w h1 h2 => by cases h1; rw [hg] at h2; cases h2⟩
    | some u =>
      rw [hg] at h
      dsimp only at h
      cases hb : Nat.beq u.category 2 with
      | true => rw [hb] at h; exact False.elim h
      | false =>
        rw [hb] at h
        exact ⟨h, fun j w h1 h2 => by cases h1; rw [hg] at h2; cases h2; exact Nat.ne_of_beq_eq_false hb⟩
-- inversions of the views
theorem sm_oi_inv {o : Option Value} {f : Int32 → Prop} (h : sm_oi o f) : ∃ a, o = some (.int a) ∧ f a := by
  unfold sm_oi at h
  split at h
  · exact ⟨_, rfl, h⟩
  · exact False.elim h
theorem sm_ol_inv {o : Option Value} {f : Int64 → Prop} (h : sm_ol o f) : ∃ a, o = some (.long a) ∧ f a := by
  unfold sm_ol at h
  split at h
  · exact ⟨_, rfl, h⟩
  · exact False.elim h
theorem sm_or_inv {o : Option Value} {f : Nat → Prop} (h : sm_or o f) : ∃ a, o = some (.ref a) ∧ f a := by
  unfold sm_or at h
  split at h
  · exact ⟨_, rfl, h⟩
  · exact False.elim h
theorem sm_si_inv {st : List Value} {f : Int32 → List Value → Prop} (h : sm_si st f) : ∃ a r, st = .int a :: r ∧ f a r := by
  unfold sm_si at h
  split at h
  · exact ⟨_, _, rfl, h⟩
  · exact False.elim h
theorem sm_sl_inv {st : List Value} {f : Int64 → List Value → Prop} (h : sm_sl st f) : ∃ a r, st = .long a :: r ∧ f a r := by
  unfold sm_sl at h
  split at h
  · exact ⟨_, _, rfl, h⟩
  · exact False.elim h
theorem sm_sr_inv {st : List Value} {f : Nat → List Value → Prop} (h : sm_sr st f) : ∃ a r, st = .ref a :: r ∧ f a r := by
  unfold sm_sr at h
  split at h
  · exact ⟨_, _, rfl, h⟩
  · exact False.elim h
theorem sm_sv_inv {st : List Value} {f : Value → List Value → Prop} (h : sm_sv st f) : ∃ a r, st = a :: r ∧ f a r := by
  unfold sm_sv at h
  split at h
  · exact ⟨_, _, rfl, h⟩
  · exact False.elim h
theorem sm_ha_inv {h : sm_H} {a : Nat} {f : Nat → vp_A → Prop} {g : Prop} (hh : sm_ha h a f g) : (∃ t x, sm_nth h a = some (.inl (t, x)) ∧ f t x) ∨ g := by
  unfold sm_ha at hh
  split at hh
  · exact Or.inl ⟨_, _, by assumption, hh⟩
  · exact False.elim hh
  · exact Or.inr hh
theorem sm_ho_inv {h : sm_H} {a : Nat} {f : Nat → List Value → Prop} (hh : sm_ho h a f) : ∃ c fs, sm_nth h a = some (.inr (c, fs)) ∧ f c fs := by
  unfold sm_ho at hh
  split at hh
  · exact ⟨_, _, by assumption, hh⟩
  · exact False.elim hh
theorem sm_xi_inv {x : vp_A} {f : Nat → (Nat → Int32) → Prop} (h : sm_xi x f) : ∃ n g, x = (n, .inl g) ∧ f n g := by
  unfold sm_xi at h
  split at h
  · exact ⟨_, _, rfl, h⟩
  · exact False.elim h
theorem sm_xl_inv {x : vp_A} {f : Nat → (Nat → Int64) → Prop} (h : sm_xl x f) : ∃ n g, x = (n, .inr (.inl g)) ∧ f n g := by
  unfold sm_xl at h
  split at h
  · exact ⟨_, _, rfl, h⟩
  · exact False.elim h
theorem sm_xr_inv {x : vp_A} {f : Nat → (Nat → Option Nat) → Prop} (h : sm_xr x f) : ∃ n g, x = (n, .inr (.inr (.inr (.inr g)))) ∧ f n g := by
  unfold sm_xr at h
  split at h
  · exact ⟨_, _, rfl, h⟩
  · exact False.elim h
theorem sm_fld_inv {fs : List Value} {y : Nat} {f : Value → Prop} (h : sm_fld fs y f) : ∃ w, fs[y]? = some w ∧ f w := by
  unfold sm_fld at h
  split at h
  · exact ⟨_, by rw [← sm_nth_eq]; assumption, h⟩
  · exact False.elim h
theorem sm_cond_inv {b : Bool} {p : Prop} (h : cond b p False) : b = true ∧ p := by
  cases b
  · exact False.elim h
  · exact ⟨rfl, h⟩
theorem sm_pop_inv : ∀ (n : Nat) (acc st : List Value) (f : List Value → List Value → Prop), sm_pop n acc st f → ∃ as r, as.length = n ∧ st = as.reverse ++ r ∧ f (as ++ acc) r
  | 0, acc, st, f, h => ⟨[], st, rfl, rfl, h⟩
  | n + 1, acc, [], f, h => False.elim h
  | n + 1, acc, v :: r, f, h => by
    obtain ⟨as, r', h1, h2, h3⟩ := sm_pop_inv n (v :: acc) r f h
    refine ⟨as ++ [v], r', by simp [h1], by simp [h2], by simpa using h3⟩
theorem sm_cat_sum : ∀ (st : List Value), (st.map fun v => v.category).sum = sm_cat st
  | [] => rfl
  | v :: r => by simp [sm_cat, sm_cat_sum r]
theorem sm_rv_sum (ad : Nat → Nat) (st : List Value) : ((st.map (sm_rv ad)).map fun v => v.category).sum = sm_cat st := by
  rw [← sm_cat_sum, List.map_map]
  congr 1
  apply List.map_congr_left
  intro v _
  exact sm_rv_cat ad v
theorem sm_store_inv {v : Value} {st : List Value} {f : Value → Nat → List Value → Prop} (h : sm_store v st f) :
    ∃ w b r, st = w :: .ref b :: r ∧ f w b r ∧ ((∃ z a, v = .int z ∧ w = .int a) ∨ (∃ z a, v = .long z ∧ w = .long a) ∨ (v = .null ∧ ∃ a, w = .int a ∧ (a = 0 ∨ a = 1))) := by
  unfold sm_store at h
  split at h
  · exact ⟨_, _, _, rfl, h, Or.inl ⟨_, _, rfl, rfl⟩⟩
  · exact ⟨_, _, _, rfl, h, Or.inr (Or.inl ⟨_, _, rfl, rfl⟩)⟩
  · exact ⟨_, _, _, rfl, h.2, Or.inr (Or.inr ⟨rfl, _, rfl, h.1⟩)⟩
  · exact False.elim h
theorem sm_sw_inv {a : Int32} {d : Nat} {k : Nat → Prop} : ∀ {sw : List (Int32 × Nat)}, sm_sw a sw d k → (∃ (i t : Nat), sw[i]? = some (a, t) ∧ (∀ (j : Nat), j < i → ∀ (q : Int32 × Nat), sw[j]? = some q → q.1 ≠ a) ∧ k t) ∨ ((∀ q : Int32 × Nat, q ∈ sw → q.1 ≠ a) ∧ k d)
  | [], h => Or.inr ⟨fun q h => (by cases h), h⟩
  | (c, t) :: r, h => by
    obtain ⟨h1, h2⟩ := h
    by_cases hc : a = c
    · subst hc
      exact Or.inl ⟨0, t, rfl, fun j hj => absurd hj (Nat.not_lt_zero j), h1 rfl⟩
    · rcases sm_sw_inv (h2 hc) with ⟨i, t', e1, e2, e3⟩ | ⟨e1, e2⟩
      · refine Or.inl ⟨i + 1, t', by simpa using e1, fun j hj q hq => ?_, e3⟩
        cases j with
        | zero => simp at hq; subst hq; exact fun h => hc h.symm
        | succ j => exact e2 j (by omega) q (by simpa using hq)
      · refine Or.inr ⟨fun q hq => ?_, e2⟩
        rcases List.mem_cons.mp hq with rfl | hq
        · exact fun h => hc h.symm
        · exact e1 q hq
-- contracts and contexts
def sm_Qc (Q : sm_Q) (D : va_G) (G : Nat → ClassId) (ad : Nat → Nat) (A : Nat → Prop) : Array Value → State → Outcome → State → Prop := fun _ st oc t =>
  (∃ v h, oc = .returned (v.map (sm_rv ad)) ∧ Q v h ∧ va_P D vwCl (sm_rw G ad h) t.heap ∧ va_K D vwCl (sm_tys G) t ∧ va_D A (sm_rw G ad h)) ∧ va_F A st t
def sm_room (d : Nat) : Room := { frames := d, cells := 0, slots := 0, locals := 64 * d }
/-- method j, called with these arguments at this heap, with d frames left: it returns, with Q -/
def sm_call (d : Nat) : sm_CT := fun j as h Q => ∀ (l : Launch) (D : va_G) (G : Nat → ClassId) (ad : Nat → Nat) (sz : Nat),
  Met l (sm_y j) (sm_ws j) (sm_room d) (va_Pc (as.map (sm_rv ad)) (fun U => U.heap.size = sz ∧ va_P D vwCl (sm_rw G ad h) U.heap ∧ va_K D vwCl (sm_tys G) U ∧ va_D (fun _ => True) (sm_rw G ad h))) (sm_Qc Q D G ad (va_A (sm_rw G ad h) sz)) 0 0 (va_A (sm_rw G ad h) sz)
def sm_rt (j : Nat) (v : Option Value) (pc : Nat) : Prop := match v with
  | none => decode (sm_code j) pc = .ok (.return_, 1) ∧ sm_ret j = none
  | some (.int a) => decode (sm_code j) pc = .ok (.ireturn, 1) ∧ ∃ ty, sm_ret j = some ty ∧ narrow ty (.int a) = .int a
  | some (.long _) => decode (sm_code j) pc = .ok (.lreturn, 1) ∧ sm_ret j = some .long
  | _ => False
def sm_ok (j d : Nat) (Q : sm_Q) (sc : Option (Nat × (Nat → Int32))) (p : Program) (l : Launch) (e : Env) (R : Room) (s : State) (m : MethodId) (args : Array Value) (below : List Frame) (meth : Method) (c : Code) (A : Nat → Prop) (H0 : Heap) (D : va_G) (G : Nat → ClassId) (ad : Nat → Nat) (cells slots : Nat) (Z : State → Prop) : Prop :=
  p.tables.exec = Jvm.exec ∧ c.code = sm_code j ∧ c.maxLocals = sm_max j ∧ s.vm.findClass (sm_y j).cls = some m.cls ∧ (∀ w ∈ sm_all, w.before args s = true) ∧ va_K D vwCl (sm_tys G) s ∧ (∀ q, H0.size ≤ q → A q) ∧ (d + 1 ≤ R.frames ∧ 64 * (d + 1) ≤ R.locals) ∧ (cells ≤ R.cells ∧ slots ≤ R.slots) ∧
  (∀ (H : Heap) (locs : List Loc) (lsA : Array Slot) (pc : Nat) (v : Option Value) (h : sm_H), sm_rt j v pc → Q v h → va_P D vwCl (sm_rw G ad h) H → va_D A (sm_rw G ad h) → va_S A H0 H locs → W p l e R s m args below meth c H locs cells slots Z (F0 m pc lsA (v.map (sm_rv ad)).toList)) ∧
  (∀ q, sc = some q → va_X (ad 9999) q.1 q.2 s H0 ∧ ad 9999 < H0.size ∧ ¬ A (ad 9999))
def sm_W (j d : Nat) (Q : sm_Q) (sc : Option (Nat × (Nat → Int32))) (pc : Nat) (ls : sm_L) (st : List Value) (h : sm_H) : Prop :=
  ∀ (p : Program) (l : Launch) (e : Env) (R : Room) (s : State) (m : MethodId) (args : Array Value) (below : List Frame) (meth : Method) (c : Code) (A : Nat → Prop) (H0 : Heap) (D : va_G) (G : Nat → ClassId) (ad : Nat → Nat) (cells slots : Nat) (Z : State → Prop),
    sm_ok j d Q sc p l e R s m args below meth c A H0 D G ad cells slots Z → ∀ (H : Heap) (locs : List Loc) (lsA : Array Slot), va_P D vwCl (sm_rw G ad h) H → va_D A (sm_rw G ad h) → va_S A H0 H locs → sm_lo ad (sm_max j) ls lsA →
      W p l e R s m args below meth c H locs cells slots Z (F0 m pc lsA (st.map (sm_rv ad)))
end
section
/-! A step of the simple machine is a step of the machine. -/
def sm_len (i : Instr) (y : Nat) : Nat := match i with
  | .tableswitch _ _ _ _ | .lookupswitch _ _ => y
  | .bipush _ | .ldc _ | .iload _ | .lload _ | .aload _ | .istore _ | .lstore _ | .astore _ => 2
  | .sipush _ | .ldc_w _ | .ldc2_w _ | .iinc _ _ | .ifCond _ _ | .if_icmp _ _ | .goto _ | .getfield _ | .putfield _ | .invokevirtual _ | .invokestatic _ | .invokespecial _ | .new _ => 3
  | .newarray _ => 2
  | .multianewarray _ _ => 4
  | _ => 1
/-- the words of method j itself -/
def sm_mwords (j : Nat) : Bool := sm_has (sm_m j).2.2.2.2.2.1 (.code (sm_y j) (sm_code j) (sm_max j) (sm_ret j)) && sm_has (sm_m j).2.2.2.2.2.2.2.2 (.initialized (sm_y j).cls)
def sm_mvirt (j : Nat) : Bool := sm_has (sm_m j).2.2.2.2.2.2.1 (.instanceMethod (sm_y j)) && sm_has (sm_m j).2.2.2.2.2.2.2.1 (.selects (sm_y j).cls (sm_y j) (sm_y j))
def sm_mstat (j : Nat) : Bool := sm_has (sm_m j).2.2.2.2.2.2.1 (.static (sm_y j))
def sm_npar (j n : Nat) : Bool := decide ((sm_y j).cls ≠ "java/lang/invoke/MethodHandle") && decide ((sm_y j).cls ≠ "java/lang/invoke/VarHandle") && decide ((parseMethodDescriptor (sm_y j).desc).map (fun d => d.parameters.length) = some n)
def sm_cl (x : Nat) : vw_C := match sm_nth vwCl x with
  | some r => r
  | none => ("", fun _ => ("", "", "", true), 0)
/-- what must be so of a row of method j -/
def sm_aux (j : Nat) (i : Instr) (pc x y z : Nat) (v : Value) (sw : List (Int32 × Nat)) : Bool := match i with
  | .iconst n => decide (v = .int (Int32.ofInt n))
  | .bipush n => decide (v = .int (Int8.ofInt n).toInt32)
  | .sipush n => decide (v = .int (Int16.ofInt n).toInt32)
  | .lconst n => decide (v = .long (Int64.ofNat (n : Nat)))
  | .ldc k => match v with
    | .int a => sm_has z (.constant (sm_y j).cls k a)
    | _ => false
  | .ldc_w k => match v with
    | .int a => sm_has z (.constant (sm_y j).cls k a)
    | _ => false
  | .ldc2_w k => match v with
    | .long a => sm_has z (.constantLong (sm_y j).cls k a)
    | _ => false
  | .iload_n n => decide ((n : Nat) = x)
  | .lload_n n => decide ((n : Nat) = x)
  | .aload_n n => decide ((n : Nat) = x)
  | .iload n => decide (n = x)
  | .lload n => decide (n = x)
  | .aload n => decide (n = x)
  | .istore_n n => decide ((n : Nat) = x ∧ x < sm_max j)
  | .lstore_n n => decide ((n : Nat) = x ∧ x + 1 < sm_max j)
  | .astore_n n => decide ((n : Nat) = x ∧ x < sm_max j)
  | .istore n => decide (n = x ∧ x < sm_max j)
  | .lstore n => decide (n = x ∧ x + 1 < sm_max j)
  | .astore n => decide (n = x ∧ x < sm_max j)
  | .iinc n b => decide (n = x ∧ x < sm_max j ∧ v = .int (Int32.ofInt b))
  | .ifCond _ o => decide ((pc : Int) + o = (x : Int))
  | .if_icmp _ o => decide ((pc : Int) + o = (x : Int))
  | .goto o => decide ((pc : Int) + o = (x : Int))
  | .getfield k => decide (x < 6 ∧ y < (sm_cl x).2.2) && sm_has z (.fieldLink (sm_y j).cls k ((sm_cl x).2.1 y).1 ((sm_cl x).2.1 y).2.1 ((sm_cl x).2.1 y).2.2.1)
  | .putfield k => decide (x < 6 ∧ y < (sm_cl x).2.2 ∧ ((sm_cl x).2.1 y).2.2.2 = false) && sm_has z (.fieldLink (sm_y j).cls k ((sm_cl x).2.1 y).1 ((sm_cl x).2.1 y).2.1 ((sm_cl x).2.1 y).2.2.1) && (match v with
    | .int _ => decide (((sm_cl x).2.1 y).2.2.1 = "I")
    | .long _ => decide (((sm_cl x).2.1 y).2.2.1 = "J")
    | .null => decide (((sm_cl x).2.1 y).2.2.1 = "Z")
    | _ => false)
  | .tableswitch d lo hi o => decide ((pc : Int) + d = (x : Int) ∧ -1000 ≤ lo ∧ hi < 1000 ∧ hi - lo + 1 = (o.size : Int) ∧ sw.length = o.size) && (List.range o.size).all fun i => match sm_nth sw i, o[i]? with
    | some q, some w => decide (q.1 = Int32.ofInt (lo + (i : Int)) ∧ (pc : Int) + w = (q.2 : Int))
    | _, _ => false
  | .lookupswitch d ps => decide ((pc : Int) + d = (x : Int) ∧ (ps.toList.zip (ps.toList.drop 1)).all (fun q => q.1.1 < q.2.1) = true ∧ sw.map (fun q => (q.1.toInt, (q.2 : Int))) = ps.toList.map (fun q => (q.1, (pc : Int) + q.2)))
  | .invokevirtual k => sm_mwords x && sm_mvirt x && sm_npar x y && sm_has z (.methodLink (sm_y j).cls k (sm_y x)) && decide (sm_max x ≤ 40) && (match v with
    | .ref c => decide (c < 6 ∧ (sm_cl c).1 = (sm_y x).cls)
    | _ => false)
  | .invokestatic k => sm_mwords x && sm_mstat x && sm_npar x y && sm_has z (.methodLink (sm_y j).cls k (sm_y x)) && decide (sm_max x ≤ 40)
  | .ireturn => match y with
    | 0 => decide (sm_ret j = some .int)
    | _ => decide (sm_ret j = some .boolean)
  | .lreturn => decide (sm_ret j = some .long)
  | .return_ => decide (sm_ret j = none)
  | .iadd | .isub | .imul | .iand | .ior | .ixor | .idiv | .irem | .ishl | .ishr | .iushr | .ladd | .lmul | .land | .ldiv | .lrem | .lshr | .lcmp | .i2l | .l2i | .i2b | .dup | .dup2 => true
  | .iaload | .iastore | .baload | .bastore | .laload | .lastore | .aaload | .arraylength => true
  | _ => false
def sm_chk (j : Nat) (e : sm_I) : Bool := decide (decode (sm_code j) e.1 = .ok (e.2.2.1, sm_len e.2.2.1 e.2.2.2.2.1)) && decide (e.2.1 = e.1 + sm_len e.2.2.1 e.2.2.2.2.1) && sm_aux j e.2.2.1 e.1 e.2.2.2.1 e.2.2.2.2.1 e.2.2.2.2.2.1 e.2.2.2.2.2.2.1 e.2.2.2.2.2.2.2
theorem sm_cl_at {x : Nat} (h : x < 6) : vwCl[x]? = some (sm_cl x) := by
  match x, h with
  | 0, _ => rfl
  | 1, _ => rfl
  | 2, _ => rfl
  | 3, _ => rfl
  | 4, _ => rfl
  | 5, _ => rfl
def sm_fty : Nat → Nat → FieldType
  | 0 => tyX0
  | 1 => tyX1
  | 2 => tyX2
  | 3 => tyX3
  | 4 => tyX4
  | _ => tyX5
theorem sm_cl_ty {x : Nat} (h : x < 6) : ∀ k, k < (sm_cl x).2.2 → parseFieldDescriptor ((sm_cl x).2.1 k).2.2.1 = some (sm_fty x k) := by
  match x, h with
  | 0, _ => exact tyX0_ok
  | 1, _ => exact tyX1_ok
  | 2, _ => exact tyX2_ok
  | 3, _ => exact tyX3_ok
  | 4, _ => exact tyX4_ok
  | 5, _ => exact tyX5_ok
theorem sm_cl_nm {x : Nat} (h : x < 6) : ∀ a, a < (sm_cl x).2.2 → ∀ b, b < (sm_cl x).2.2 → a ≠ b → ((sm_cl x).2.1 a).2.1 ≠ ((sm_cl x).2.1 b).2.1 := by
  match x, h with
  | 0, _ => exact nmX0
  | 1, _ => exact nmX1
  | 2, _ => exact nmX2
  | 3, _ => exact nmX3
  | 4, _ => exact nmX4
  | 5, _ => exact nmX5
theorem sm_inw (ws : List Jvm.Cond) (h : (ws.all fun w => goodWord w && decide (w ∈ lw_tbl)) = true) : ∀ w ∈ ws, w ∈ sm_all := by
  intro w hw
  have h1 := List.all_eq_true.mp h w hw
  simp only [Bool.and_eq_true, decide_eq_true_eq] at h1
  exact List.mem_filter.mpr ⟨h1.2, h1.1⟩
theorem sm_inX0 : ∀ w ∈ wsX00, w ∈ sm_all := sm_inw _ (by decide +kernel)
theorem sm_inX1 : ∀ w ∈ wsX10, w ∈ sm_all := sm_inw _ (by decide +kernel)
theorem sm_inX2 : ∀ w ∈ wsX20, w ∈ sm_all := sm_inw _ (by decide +kernel)
theorem sm_inX3 : ∀ w ∈ wsX30, w ∈ sm_all := sm_inw _ (by decide +kernel)
theorem sm_inX4 : ∀ w ∈ wsX40, w ∈ sm_all := sm_inw _ (by decide +kernel)
theorem sm_inX5 : ∀ w ∈ wsX50, w ∈ sm_all := sm_inw _ (by decide +kernel)
theorem sm_cl_in {x : Nat} (h : x < 6) : ∀ w ∈ u_ws (sm_cl x).1 (sm_cl x).2.1 (sm_cl x).2.2, w ∈ sm_all := by
  match x, h with
  | 0, _ => exact sm_inX0
  | 1, _ => exact sm_inX1
  | 2, _ => exact sm_inX2
  | 3, _ => exact sm_inX3
  | 4, _ => exact sm_inX4
  | 5, _ => exact sm_inX5
theorem sm_good_ws {x : Nat} (h : sm_mwords x = true) : GoodIn sm_all (sm_ws x) := by
  simp only [sm_mwords, Bool.and_eq_true] at h
  intro w hw
  rcases List.mem_cons.mp hw with rfl | hw
  · exact ⟨sm_has_in h.1, good_of_word (sm_all_good (sm_has_in h.1))⟩
  · exact ⟨hw, good_of_word (sm_all_good hw)⟩
theorem sm_good_cons {w : Jvm.Cond} {ws : List Jvm.Cond} (h : w ∈ sm_all) (h2 : GoodIn sm_all ws) : GoodIn sm_all (w :: ws) := by
  intro u hu
  rcases List.mem_cons.mp hu with rfl | hu
  · exact ⟨h, good_of_word (sm_all_good h)⟩
  · exact h2 u hu
section SMS
variable {p : Program} {l : Launch} {e : Env} {R : Room} {s : State} {m : MethodId} {args : Array Value} {below : List Frame} {meth : Method} {c : Code} {H : Heap} {locs : List Loc} {cells slots : Nat} {Z : State → Prop}
variable {pc : Nat} {ls : Array Slot} {rest st0 : List Value} {a : Array Value} {A0 A1 : Nat → Prop} {H0 : Heap} {mc ms : Nat} {free : Addr → Prop}
/-- behind a call of whatever answer -/
theorem sm_after {Q : sm_Q} {D : va_G} {G : Nat → ClassId} {ad : Nat → Nat} (hr : va_Run p l e R s m args below meth c H locs cells slots 0 0 (F0 m pc ls st0) rest (sm_Qc Q D G ad A1 a) free) (hS : va_S A0 H0 H locs) (hA : ∀ q, A1 q → A0 q) (hf : ∀ q, free q → A0 q)
    (kk : ∀ (v : Option Value) (h : sm_H) (H1 : Heap) (locs1 : List Loc), Q v h → va_P D vwCl (sm_rw G ad h) H1 → va_D A0 (sm_rw G ad h) → va_S A0 H0 H1 locs1 → W p l e R s m args below meth c H1 locs1 cells slots Z (F0 m (pc + 3) ls ((v.map (sm_rv ad)).toList ++ rest))) : W p l e R s m args below meth c H locs cells slots Z (F0 m pc ls st0) := by
  intro T hT X
  obtain ⟨v, st₀, t, T', L, h0, X', hL, e1, e2, ⟨⟨w, h, hv, hq, hP, hK, hD⟩, hz, hk⟩, st⟩ := hr T hT X
  cases hv
  rw [h0] at hz hk
  obtain ⟨t2, a1, b1⟩ := kk w h T'.heap (locs ++ L) hq (by rw [e1]; exact hP) (hD.weaken (fun _ _ _ h => hA _ h))
    ⟨Nat.le_trans hS.1 (by rw [e1]; exact hz), fun q h1 h2 => by rw [e1, hk q (Nat.lt_of_lt_of_le h1 hS.1) (fun z => h2 (hA q z))]; exact hS.2.1 q h1 h2, fun q hq => by
      rcases List.mem_append.mp hq with h | h
      · exact hS.2.2 q h
      · exact hf _ (hL q h)⟩ T' rfl X'
  exact ⟨t2, st t2 a1, b1⟩
end SMS
end
section
/-! The rows of each method, checked. -/
set_option maxRecDepth 100000 in
theorem sm_k1 : (sm_tab 1).all (sm_chk 1) = true := by decide +kernel
set_option maxRecDepth 100000 in
theorem sm_k2 : (sm_tab 2).all (sm_chk 2) = true := by decide +kernel
set_option maxRecDepth 100000 in
theorem sm_k3 : (sm_tab 3).all (sm_chk 3) = true := by decide +kernel
set_option maxRecDepth 100000 in
theorem sm_k4 : (sm_tab 4).all (sm_chk 4) = true := by decide +kernel
set_option maxRecDepth 100000 in
theorem sm_k5 : (sm_tab 5).all (sm_chk 5) = true := by decide +kernel
set_option maxRecDepth 100000 in
theorem sm_k6 : (sm_tab 6).all (sm_chk 6) = true := by decide +kernel
set_option maxRecDepth 100000 in
theorem sm_k7 : (sm_tab 7).all (sm_chk 7) = true := by decide +kernel
set_option maxRecDepth 100000 in
theorem sm_k8 : (sm_tab 8).all (sm_chk 8) = true := by decide +kernel
set_option maxRecDepth 100000 in
theorem sm_k9 : (sm_tab 9).all (sm_chk 9) = true := by decide +kernel
set_option maxRecDepth 100000 in
theorem sm_k10 : (sm_tab 10).all (sm_chk 10) = true := by decide +kernel
set_option maxRecDepth 100000 in
theorem sm_k11 : (sm_tab 11).all (sm_chk 11) = true := by decide +kernel
set_option maxRecDepth 100000 in
theorem sm_k12 : (sm_tab 12).all (sm_chk 12) = true := by decide +kernel
set_option maxRecDepth 100000 in
theorem sm_k13 : (sm_tab 13).all (sm_chk 13) = true := by decide +kernel
set_option maxRecDepth 100000 in
theorem sm_k14 : (sm_tab 14).all (sm_chk 14) = true := by decide +kernel
set_option maxRecDepth 100000 in
theorem sm_k15 : (sm_tab 15).all (sm_chk 15) = true := by decide +kernel
set_option maxRecDepth 100000 in
theorem sm_k16 : (sm_tab 16).all (sm_chk 16) = true := by decide +kernel
set_option maxRecDepth 100000 in
theorem sm_k17 : (sm_tab 17).all (sm_chk 17) = true := by decide +kernel
set_option maxRecDepth 100000 in
theorem sm_k18 : (sm_tab 18).all (sm_chk 18) = true := by decide +kernel
set_option maxRecDepth 100000 in
theorem sm_k19 : (sm_tab 19).all (sm_chk 19) = true := by decide +kernel
set_option maxRecDepth 100000 in
theorem sm_k20 : (sm_tab 20).all (sm_chk 20) = true := by decide +kernel
set_option maxRecDepth 100000 in
theorem sm_k22 : (sm_tab 22).all (sm_chk 22) = true := by decide +kernel
set_option maxRecDepth 100000 in
theorem sm_k23 : (sm_tab 23).all (sm_chk 23) = true := by decide +kernel
set_option maxRecDepth 100000 in
theorem sm_k24 : (sm_tab 24).all (sm_chk 24) = true := by decide +kernel
set_option maxRecDepth 100000 in
theorem sm_k25 : (sm_tab 25).all (sm_chk 25) = true := by decide +kernel
set_option maxRecDepth 100000 in
theorem sm_k27 : (sm_tab 27).all (sm_chk 27) = true := by decide +kernel
set_option maxRecDepth 100000 in
theorem sm_k28 : (sm_tab 28).all (sm_chk 28) = true := by decide +kernel
set_option maxRecDepth 100000 in
theorem sm_k29 : (sm_tab 29).all (sm_chk 29) = true := by decide +kernel
set_option maxRecDepth 100000 in
theorem sm_k30 : (sm_tab 30).all (sm_chk 30) = true := by decide +kernel
set_option maxRecDepth 100000 in
theorem sm_k31 : (sm_tab 31).all (sm_chk 31) = true := by decide +kernel
set_option maxRecDepth 100000 in
theorem sm_k32 : (sm_tab 32).all (sm_chk 32) = true := by decide +kernel
set_option maxRecDepth 100000 in
theorem sm_k33 : (sm_tab 33).all (sm_chk 33) = true := by decide +kernel
set_option maxRecDepth 100000 in
theorem sm_k34 : (sm_tab 34).all (sm_chk 34) = true := by decide +kernel
set_option maxRecDepth 100000 in
theorem sm_k36 : (sm_tab 36).all (sm_chk 36) = true := by decide +kernel
set_option maxRecDepth 100000 in
theorem sm_k37 : (sm_tab 37).all (sm_chk 37) = true := by decide +kernel
set_option maxRecDepth 100000 in
theorem sm_k38 : (sm_tab 38).all (sm_chk 38) = true := by decide +kernel
set_option maxRecDepth 100000 in
theorem sm_k39 : (sm_tab 39).all (sm_chk 39) = true := by decide +kernel
set_option maxRecDepth 100000 in
theorem sm_k40 : (sm_tab 40).all (sm_chk 40) = true := by decide +kernel
set_option maxRecDepth 100000 in
theorem sm_k42 : (sm_tab 42).all (sm_chk 42) = true := by decide +kernel
set_option maxRecDepth 100000 in
theorem sm_k43 : (sm_tab 43).all (sm_chk 43) = true := by decide +kernel
set_option maxRecDepth 100000 in
theorem sm_k44 : (sm_tab 44).all (sm_chk 44) = true := by decide +kernel
set_option maxRecDepth 100000 in
theorem sm_k45 : (sm_tab 45).all (sm_chk 45) = true := by decide +kernel
set_option maxRecDepth 100000 in
theorem sm_k46 : (sm_tab 46).all (sm_chk 46) = true := by decide +kernel
set_option maxRecDepth 100000 in
theorem sm_k47 : (sm_tab 47).all (sm_chk 47) = true := by decide +kernel
set_option maxRecDepth 100000 in
theorem sm_k48 : (sm_tab 48).all (sm_chk 48) = true := by decide +kernel
set_option maxRecDepth 100000 in
theorem sm_k49 : (sm_tab 49).all (sm_chk 49) = true := by decide +kernel
set_option maxRecDepth 100000 in
theorem sm_k50 : (sm_tab 50).all (sm_chk 50) = true := by decide +kernel
set_option maxRecDepth 100000 in
theorem sm_k51 : (sm_tab 51).all (sm_chk 51) = true := by decide +kernel
set_option maxRecDepth 100000 in
theorem sm_k52 : (sm_tab 52).all (sm_chk 52) = true := by decide +kernel
set_option maxRecDepth 100000 in
theorem sm_k53 : (sm_tab 53).all (sm_chk 53) = true := by decide +kernel
set_option maxRecDepth 100000 in
theorem sm_k54 : (sm_tab 54).all (sm_chk 54) = true := by decide +kernel
set_option maxRecDepth 100000 in
theorem sm_k55 : (sm_tab 55).all (sm_chk 55) = true := by decide +kernel
set_option maxRecDepth 100000 in
theorem sm_k56 : (sm_tab 56).all (sm_chk 56) = true := by decide +kernel
set_option maxRecDepth 100000 in
theorem sm_k57 : (sm_tab 57).all (sm_chk 57) = true := by decide +kernel
set_option maxRecDepth 100000 in
theorem sm_k58 : (sm_tab 58).all (sm_chk 58) = true := by decide +kernel
set_option maxRecDepth 100000 in
theorem sm_k59 : (sm_tab 59).all (sm_chk 59) = true := by decide +kernel
set_option maxRecDepth 100000 in
theorem sm_k60 : (sm_tab 60).all (sm_chk 60) = true := by decide +kernel
set_option maxRecDepth 100000 in
theorem sm_k61 : (sm_tab 61).all (sm_chk 61) = true := by decide +kernel
set_option maxRecDepth 100000 in
theorem sm_k62 : (sm_tab 62).all (sm_chk 62) = true := by decide +kernel
set_option maxRecDepth 100000 in
theorem sm_k63 : (sm_tab 63).all (sm_chk 63) = true := by decide +kernel
set_option maxRecDepth 100000 in
theorem sm_k64 : (sm_tab 64).all (sm_chk 64) = true := by decide +kernel
set_option maxRecDepth 100000 in
theorem sm_k65 : (sm_tab 65).all (sm_chk 65) = true := by decide +kernel
set_option maxRecDepth 100000 in
theorem sm_k66 : (sm_tab 66).all (sm_chk 66) = true := by decide +kernel
set_option maxRecDepth 100000 in
theorem sm_k67 : (sm_tab 67).all (sm_chk 67) = true := by decide +kernel
set_option maxRecDepth 100000 in
theorem sm_k68 : (sm_tab 68).all (sm_chk 68) = true := by decide +kernel
set_option maxRecDepth 100000 in
theorem sm_k69 : (sm_tab 69).all (sm_chk 69) = true := by decide +kernel
set_option maxRecDepth 100000 in
theorem sm_k70 : (sm_tab 70).all (sm_chk 70) = true := by decide +kernel
set_option maxRecDepth 100000 in
theorem sm_k71 : (sm_tab 71).all (sm_chk 71) = true := by decide +kernel
set_option maxRecDepth 100000 in
theorem sm_k72 : (sm_tab 72).all (sm_chk 72) = true := by decide +kernel
set_option maxRecDepth 100000 in
theorem sm_k73 : (sm_tab 73).all (sm_chk 73) = true := by decide +kernel
set_option maxRecDepth 100000 in
theorem sm_k74 : (sm_tab 74).all (sm_chk 74) = true := by decide +kernel
set_option maxRecDepth 100000 in
theorem sm_k75 : (sm_tab 75).all (sm_chk 75) = true := by decide +kernel
set_option maxRecDepth 100000 in
theorem sm_k76 : (sm_tab 76).all (sm_chk 76) = true := by decide +kernel
set_option maxRecDepth 100000 in
theorem sm_k77 : (sm_tab 77).all (sm_chk 77) = true := by decide +kernel
set_option maxRecDepth 100000 in
theorem sm_k79 : (sm_tab 79).all (sm_chk 79) = true := by decide +kernel
set_option maxRecDepth 100000 in
theorem sm_k80 : (sm_tab 80).all (sm_chk 80) = true := by decide +kernel
set_option maxRecDepth 100000 in
theorem sm_k81 : (sm_tab 81).all (sm_chk 81) = true := by decide +kernel
set_option maxRecDepth 100000 in
theorem sm_k82 : (sm_tab 82).all (sm_chk 82) = true := by decide +kernel
set_option maxRecDepth 100000 in
theorem sm_k83 : (sm_tab 83).all (sm_chk 83) = true := by decide +kernel
set_option maxRecDepth 100000 in
theorem sm_k84 : (sm_tab 84).all (sm_chk 84) = true := by decide +kernel
set_option maxRecDepth 100000 in
theorem sm_k85 : (sm_tab 85).all (sm_chk 85) = true := by decide +kernel
set_option maxRecDepth 100000 in
theorem sm_k86 : (sm_tab 86).all (sm_chk 86) = true := by decide +kernel
set_option maxRecDepth 100000 in
theorem sm_k87 : (sm_tab 87).all (sm_chk 87) = true := by decide +kernel
set_option maxRecDepth 100000 in
theorem sm_k88 : (sm_tab 88).all (sm_chk 88) = true := by decide +kernel
set_option maxRecDepth 100000 in
theorem sm_k89 : (sm_tab 89).all (sm_chk 89) = true := by decide +kernel
set_option maxRecDepth 100000 in
theorem sm_k90 : (sm_tab 90).all (sm_chk 90) = true := by decide +kernel
set_option maxRecDepth 100000 in
theorem sm_k91 : (sm_tab 91).all (sm_chk 91) = true := by decide +kernel
set_option maxRecDepth 100000 in
theorem sm_k92 : (sm_tab 92).all (sm_chk 92) = true := by decide +kernel
set_option maxRecDepth 100000 in
theorem sm_k93 : (sm_tab 93).all (sm_chk 93) = true := by decide +kernel
set_option maxRecDepth 100000 in
theorem sm_k94 : (sm_tab 94).all (sm_chk 94) = true := by decide +kernel
set_option maxRecDepth 100000 in
theorem sm_k95 : (sm_tab 95).all (sm_chk 95) = true := by decide +kernel
set_option maxRecDepth 100000 in
theorem sm_k96 : (sm_tab 96).all (sm_chk 96) = true := by decide +kernel
set_option maxRecDepth 100000 in
theorem sm_k97 : (sm_tab 97).all (sm_chk 97) = true := by decide +kernel
set_option maxRecDepth 100000 in
theorem sm_k98 : (sm_tab 98).all (sm_chk 98) = true := by decide +kernel
set_option maxRecDepth 100000 in
theorem sm_k99 : (sm_tab 99).all (sm_chk 99) = true := by decide +kernel
set_option maxRecDepth 100000 in
theorem sm_k100 : (sm_tab 100).all (sm_chk 100) = true := by decide +kernel
set_option maxRecDepth 100000 in
theorem sm_k101 : (sm_tab 101).all (sm_chk 101) = true := by decide +kernel
set_option maxRecDepth 100000 in
theorem sm_k102 : (sm_tab 102).all (sm_chk 102) = true := by decide +kernel
set_option maxRecDepth 100000 in
theorem sm_k103 : (sm_tab 103).all (sm_chk 103) = true := by decide +kernel
set_option maxRecDepth 100000 in
theorem sm_k104 : (sm_tab 104).all (sm_chk 104) = true := by decide +kernel
set_option maxRecDepth 100000 in
theorem sm_k105 : (sm_tab 105).all (sm_chk 105) = true := by decide +kernel
set_option maxRecDepth 100000 in
theorem sm_k106 : (sm_tab 106).all (sm_chk 106) = true := by decide +kernel
set_option maxRecDepth 100000 in
theorem sm_k107 : (sm_tab 107).all (sm_chk 107) = true := by decide +kernel
set_option maxRecDepth 100000 in
theorem sm_k108 : (sm_tab 108).all (sm_chk 108) = true := by decide +kernel
set_option maxRecDepth 100000 in
theorem sm_k109 : (sm_tab 109).all (sm_chk 109) = true := by decide +kernel
set_option maxRecDepth 100000 in
theorem sm_k110 : (sm_tab 110).all (sm_chk 110) = true := by decide +kernel
set_option maxRecDepth 100000 in
theorem sm_k111 : (sm_tab 111).all (sm_chk 111) = true := by decide +kernel
set_option maxRecDepth 100000 in
theorem sm_k112 : (sm_tab 112).all (sm_chk 112) = true := by decide +kernel
set_option maxRecDepth 100000 in
theorem sm_k113 : (sm_tab 113).all (sm_chk 113) = true := by decide +kernel
set_option maxRecDepth 100000 in
theorem sm_k114 : (sm_tab 114).all (sm_chk 114) = true := by decide +kernel
set_option maxRecDepth 100000 in
theorem sm_k115 : (sm_tab 115).all (sm_chk 115) = true := by decide +kernel
set_option maxRecDepth 100000 in
theorem sm_k116 : (sm_tab 116).all (sm_chk 116) = true := by decide +kernel
set_option maxRecDepth 100000 in
theorem sm_k117 : (sm_tab 117).all (sm_chk 117) = true := by decide +kernel
set_option maxRecDepth 100000 in
theorem sm_k118 : (sm_tab 118).all (sm_chk 118) = true := by decide +kernel
set_option maxRecDepth 100000 in
theorem sm_k119 : (sm_tab 119).all (sm_chk 119) = true := by decide +kernel
set_option maxRecDepth 100000 in
theorem sm_k120 : (sm_tab 120).all (sm_chk 120) = true := by decide +kernel
set_option maxRecDepth 100000 in
theorem sm_k121 : (sm_tab 121).all (sm_chk 121) = true := by decide +kernel
set_option maxRecDepth 100000 in
theorem sm_k122 : (sm_tab 122).all (sm_chk 122) = true := by decide +kernel
set_option maxRecDepth 100000 in
theorem sm_k123 : (sm_tab 123).all (sm_chk 123) = true := by decide +kernel
set_option maxRecDepth 100000 in
theorem sm_k124 : (sm_tab 124).all (sm_chk 124) = true := by decide +kernel
set_option maxRecDepth 100000 in
theorem sm_k125 : (sm_tab 125).all (sm_chk 125) = true := by decide +kernel
set_option maxRecDepth 100000 in
theorem sm_k126 : (sm_tab 126).all (sm_chk 126) = true := by decide +kernel
set_option maxRecDepth 100000 in
theorem sm_k127 : (sm_tab 127).all (sm_chk 127) = true := by decide +kernel
set_option maxRecDepth 100000 in
theorem sm_k128 : (sm_tab 128).all (sm_chk 128) = true := by decide +kernel
set_option maxRecDepth 100000 in
theorem sm_k129 : (sm_tab 129).all (sm_chk 129) = true := by decide +kernel
set_option maxRecDepth 100000 in
theorem sm_k130 : (sm_tab 130).all (sm_chk 130) = true := by decide +kernel
set_option maxRecDepth 100000 in
theorem sm_k131 : (sm_tab 131).all (sm_chk 131) = true := by decide +kernel
set_option maxRecDepth 100000 in
theorem sm_k132 : (sm_tab 132).all (sm_chk 132) = true := by decide +kernel
set_option maxRecDepth 100000 in
theorem sm_k133 : (sm_tab 133).all (sm_chk 133) = true := by decide +kernel
set_option maxRecDepth 100000 in
theorem sm_k134 : (sm_tab 134).all (sm_chk 134) = true := by decide +kernel
set_option maxRecDepth 100000 in
theorem sm_k135 : (sm_tab 135).all (sm_chk 135) = true := by decide +kernel
set_option maxRecDepth 100000 in
theorem sm_k136 : (sm_tab 136).all (sm_chk 136) = true := by decide +kernel
set_option maxRecDepth 100000 in
theorem sm_k137 : (sm_tab 137).all (sm_chk 137) = true := by decide +kernel
set_option maxRecDepth 100000 in
theorem sm_k138 : (sm_tab 138).all (sm_chk 138) = true := by decide +kernel
set_option maxRecDepth 100000 in
theorem sm_k139 : (sm_tab 139).all (sm_chk 139) = true := by decide +kernel
set_option maxRecDepth 100000 in
theorem sm_k140 : (sm_tab 140).all (sm_chk 140) = true := by decide +kernel
set_option maxRecDepth 100000 in
theorem sm_k141 : (sm_tab 141).all (sm_chk 141) = true := by decide +kernel
set_option maxRecDepth 100000 in
theorem sm_k142 : (sm_tab 142).all (sm_chk 142) = true := by decide +kernel
end
section
/-! The law's rows, checked by pieces. -/
theorem sm_cut {α : Type} {l : List α} {p : α → Bool} (a n : Nat) (h1 : ((l.drop a).take n).all p = true) (h2 : (l.drop (a + n)).all p = true) : (l.drop a).all p = true := by
  rw [← List.take_append_drop n (l.drop a), List.all_append, h1, List.drop_drop, h2]
  rfl
set_option maxRecDepth 100000 in
theorem sm_k143_0 : (((sm_tab 143).drop 0).take 60).all (sm_chk 143) = true := by decide +kernel
set_option maxRecDepth 100000 in
theorem sm_k143_60 : (((sm_tab 143).drop 60).take 60).all (sm_chk 143) = true := by decide +kernel
set_option maxRecDepth 100000 in
theorem sm_k143_120 : (((sm_tab 143).drop 120).take 60).all (sm_chk 143) = true := by decide +kernel
set_option maxRecDepth 100000 in
theorem sm_k143_180 : (((sm_tab 143).drop 180).take 60).all (sm_chk 143) = true := by decide +kernel
set_option maxRecDepth 100000 in
theorem sm_k143_240 : (((sm_tab 143).drop 240).take 60).all (sm_chk 143) = true := by decide +kernel
set_option maxRecDepth 100000 in
theorem sm_k143_300 : (((sm_tab 143).drop 300).take 60).all (sm_chk 143) = true := by decide +kernel
set_option maxRecDepth 100000 in
theorem sm_k143_360 : (((sm_tab 143).drop 360).take 60).all (sm_chk 143) = true := by decide +kernel
set_option maxRecDepth 100000 in
theorem sm_k143_420 : (((sm_tab 143).drop 420).take 60).all (sm_chk 143) = true := by decide +kernel
set_option maxRecDepth 100000 in
theorem sm_k143_e : ((sm_tab 143).drop 480).all (sm_chk 143) = true := by decide +kernel
theorem sm_k143 : (sm_tab 143).all (sm_chk 143) = true := sm_cut 0 60 sm_k143_0 (sm_cut 60 60 sm_k143_60 (sm_cut 120 60 sm_k143_120 (sm_cut 180 60 sm_k143_180 (sm_cut 240 60 sm_k143_240 (sm_cut 300 60 sm_k143_300 (sm_cut 360 60 sm_k143_360 (sm_cut 420 60 sm_k143_420 (sm_k143_e))))))))
end
section
/-! One step, instruction by instruction. -/
section SMT
variable {p : Program} {l : Launch} {e : Env} {R : Room} {s : State} {m : MethodId} {args : Array Value} {below : List Frame} {meth : Method} {c : Code} {H : Heap} {locs : List Loc} {cells slots : Nat} {Q : State → Prop}
variable {cc : ByteArray} {pc : Nat} {ls : Array Slot} {rest : List Value} {D : va_G} {cl : List vw_C} {A : Nat → Prop} {a : Nat} {tys : List (ClassId × FieldType)} {ws : va_W} {H0 : Heap}
theorem sm_aald (hexec : p.tables.exec = Jvm.exec) (hb : c.code = cc) (hK : va_K D cl tys s) (hP : va_P D cl ws H) (q0 t0 : Nat) {cA : ClassId} {ty : FieldType} (hty : ty.isReference = true) {n : Nat} {f : Nat → Option Nat} (ha : ws[q0]? = some (a, .inl (cA, n, .inr (.inr (.inr (.inr f)))))) (ht : tys[t0]? = some (cA, ty)) {i : Int32} (hin : vp_in i n) (hdg : decode cc pc = .ok (.aaload, 1))
    (kk : W p l e R s m args below meth c H locs cells slots Q (F0 m (pc + 1) ls (va_rf (f i.toNatClampNeg) :: rest))) : W p l e R s m args below meth c H locs cells slots Q (F0 m pc ls (.int i :: .ref a :: rest)) := by
  have hlt : i.toNatClampNeg < n := Nat.not_le.mp fun q => hin (Or.inr q)
  exact W.aald (v := va_rf (f i.toNatClampNeg)) (ty := ty) hexec hb (hP q0 _ ha) ((hK.2 t0 _ ht).1 n (fun j => va_rf (f j))) hty (fun q => by cases q) (by show ¬ (i < 0 ∨ (arrV _ _ _).slots.size ≤ _); rw [arrV_size]; exact hin) (by show (arrV _ _ _).slots[_]? = _; rw [arrV_read _ _ hlt]) rfl rfl hdg kk
end SMT
theorem sm_int32_eq {a : Int32} {n : Int} (h : a.toInt = n) : a = Int32.ofInt n := by
  rw [← h, Int32.ofInt_toInt]
theorem sm_free {G : Nat → ClassId} {ad : Nat → Nat} {h : sm_H} {A : Nat → Prop} {H0 H : Heap} {locs : List Loc} (hD : va_D A (sm_rw G ad h)) (hS : va_S A H0 H locs) (hA : ∀ q, H0.size ≤ q → A q) : ∀ q, va_A (sm_rw G ad h) H.size q → A q := by
  intro q hq
  rcases hq with ⟨k, e, h1⟩ | h1
  · exact hD.2 k _ h1
  · exact hA q (Nat.le_trans hS.1 h1)
theorem sm_blind {as : List Value} {sz : Nat} {D : va_G} {G : Nat → ClassId} {ad : Nat → Nat} {h : sm_H} : FrameBlind (va_Pc as (fun U => U.heap.size = sz ∧ va_P D vwCl (sm_rw G ad h) U.heap ∧ va_K D vwCl (sm_tys G) U ∧ va_D (fun _ => True) (sm_rw G ad h))) :=
  fun a U g mk q => by obtain ⟨q0, q1, qP, qK, qD⟩ := q; exact ⟨q0, q1, qP, va_K.moved (u := U) (U := U.calling g mk a) (Vm.Alike.refl U.vm) qK, qD⟩
set_option maxHeartbeats 8000000 in
set_option maxRecDepth 100000 in
theorem sm_step_ok {j d : Nat} {Q : sm_Q} {sc : Option (Nat × (Nat → Int32))} (e : sm_I) (hc : sm_chk j e = true) {ls : sm_L} {st : List Value} {h : sm_H} {k : sm_K} (hk : ∀ pc ls st h, k pc ls st h → sm_W j d Q sc pc ls st h)
    (hs : sm_step (sm_call d) Q sc e.2.2.1 e.2.1 e.2.2.2.1 e.2.2.2.2.1 e.2.2.2.2.2.2.1 e.2.2.2.2.2.2.2 ls st h k) : sm_W j d Q sc e.1 ls st h := by
  obtain ⟨pc, nx, i, x, y, z, v, sw⟩ := e
  simp only [sm_chk, Bool.and_eq_true, decide_eq_true_eq] at hc
  obtain ⟨⟨hdg, rfl⟩, ha⟩ := hc
  dsimp only at hs ⊢
  intro p l e R s m args below meth c A H0 D G ad cells slots Z C H locs lsA hP hD hS hL
  have go : ∀ pc ls st h, k pc ls st h → ∀ H locs lsA, va_P D vwCl (sm_rw G ad h) H → va_D A (sm_rw G ad h) → va_S A H0 H locs → sm_lo ad (sm_max j) ls lsA → W p l e R s m args below meth c H locs cells slots Z (F0 m pc lsA (st.map (sm_rv ad))) := fun pc ls st h q => hk pc ls st h q p l e R s m args below meth c A H0 D G ad cells slots Z C
  obtain ⟨hx, hb, hml, hown, hts, hK, hA, hRm, hRc, hret, hscr⟩ := C
  have hsz : lsA.size = sm_max j := by obtain ⟨l0, h1, -⟩ := hL; exact h1.1
  cases i
  case iconst n =>
    have hv : v = .int (Int32.ofInt n) := of_decide_eq_true ha
    subst hv
    exact lv_iconst hx hb hdg rfl (go _ _ _ _ hs _ _ _ hP hD hS hL)
  case bipush n =>
    have hv : v = .int (Int8.ofInt n).toInt32 := of_decide_eq_true ha
    subst hv
    exact lv_bipush hx hb hdg rfl (go _ _ _ _ hs _ _ _ hP hD hS hL)
  case sipush n =>
    have hv : v = .int (Int16.ofInt n).toInt32 := of_decide_eq_true ha
    subst hv
    exact lv_sipush hx hb hdg rfl (go _ _ _ _ hs _ _ _ hP hD hS hL)
  case lconst n =>
    have hv : v = .long (Int64.ofNat (n : Nat)) := of_decide_eq_true ha
    subst hv
    exact lv_lconst hx hb hdg rfl (go _ _ _ _ hs _ _ _ hP hD hS hL)
  case ldc n =>
    cases v with
    | int a => exact lv_ldc hx hb hown (hts _ (sm_has_in ha)) hdg (go _ _ _ _ hs _ _ _ hP hD hS hL)
    | _ => exact absurd ha (by intro q; cases q)
  case ldc_w n =>
    cases v with
    | int a => exact lv_ldcw hx hb hown (hts _ (sm_has_in ha)) hdg (go _ _ _ _ hs _ _ _ hP hD hS hL)
    | _ => exact absurd ha (by intro q; cases q)
  case ldc2_w n =>
    cases v with
    | long a => exact lv_ldc2 hx hb hown (hts _ (sm_has_in ha)) hdg (go _ _ _ _ hs _ _ _ hP hD hS hL)
    | _ => exact absurd ha (by intro q; cases q)
  case iload_n n =>
    obtain ⟨a, hg, hs1⟩ := sm_oi_inv hs
    exact lv_iload_n hx hb hdg (of_decide_eq_true ha) (sm_lo_at hL hg) (go _ _ _ _ hs1 _ _ _ hP hD hS hL)
  case iload n =>
    obtain ⟨a, hg, hs1⟩ := sm_oi_inv hs
    have hn : n = x := of_decide_eq_true ha
    subst hn
    exact lv_iload hx hb hdg (sm_lo_at hL hg) (go _ _ _ _ hs1 _ _ _ hP hD hS hL)
  case lload_n n =>
    obtain ⟨a, hg, hs1⟩ := sm_ol_inv hs
    exact lv_lload_n hx hb hdg (of_decide_eq_true ha) (sm_lo_at hL hg) (go _ _ _ _ hs1 _ _ _ hP hD hS hL)
  case lload n =>
    obtain ⟨a, hg, hs1⟩ := sm_ol_inv hs
    have hn : n = x := of_decide_eq_true ha
    subst hn
    exact lv_lload hx hb hdg (sm_lo_at hL hg) (go _ _ _ _ hs1 _ _ _ hP hD hS hL)
  case aload_n n =>
    obtain ⟨a, hg, hs1⟩ := sm_or_inv hs
    exact lv_aload_n hx hb hdg (of_decide_eq_true ha) (sm_lo_at hL hg) (go _ _ _ _ hs1 _ _ _ hP hD hS hL)
  case aload n =>
    obtain ⟨a, hg, hs1⟩ := sm_or_inv hs
    have hn : n = x := of_decide_eq_true ha
    subst hn
    exact lv_aload hx hb hdg (sm_lo_at hL hg) (go _ _ _ _ hs1 _ _ _ hP hD hS hL)
  case istore_n n =>
    obtain ⟨a, r, rfl, hs1⟩ := sm_si_inv hs
    obtain ⟨hs2, hp⟩ := sm_st1_inv hs1
    obtain ⟨hn, hlt⟩ : (n : Nat) = x ∧ x < sm_max j := of_decide_eq_true ha
    obtain ⟨l0, hl0, hv0⟩ := hL
    exact lv_istore_n hx hb hdg hn hl0 hlt rfl (fun ls' hls => go _ _ _ _ hs2 _ _ _ hP hD hS ⟨_, hls, sm_set1 (v := .int a) hv0 hp⟩)
  case istore n =>
    obtain ⟨a, r, rfl, hs1⟩ := sm_si_inv hs
    obtain ⟨hs2, hp⟩ := sm_st1_inv hs1
    obtain ⟨hn, hlt⟩ : n = x ∧ x < sm_max j := of_decide_eq_true ha
    subst hn
    obtain ⟨l0, hl0, hv0⟩ := hL
    exact lv_istore hx hb hdg hl0 hlt rfl (fun ls' hls => go _ _ _ _ hs2 _ _ _ hP hD hS ⟨_, hls, sm_set1 (v := .int a) hv0 hp⟩)
  case lstore_n n =>
    obtain ⟨a, r, rfl, hs1⟩ := sm_sl_inv hs
    obtain ⟨hs2, hp⟩ := sm_st2_inv hs1
    obtain ⟨hn, hlt⟩ : (n : Nat) = x ∧ x + 1 < sm_max j := of_decide_eq_true ha
    obtain ⟨l0, hl0, hv0⟩ := hL
    exact lv_lstore_n hx hb hdg hn hl0 hlt rfl (fun ls' hls => go _ _ _ _ hs2 _ _ _ hP hD hS ⟨_, hls, sm_set2 (v := .long a) hv0 hp⟩)
  case lstore n =>
    obtain ⟨a, r, rfl, hs1⟩ := sm_sl_inv hs
    obtain ⟨hs2, hp⟩ := sm_st2_inv hs1
    obtain ⟨hn, hlt⟩ : n = x ∧ x + 1 < sm_max j := of_decide_eq_true ha
    subst hn
    obtain ⟨l0, hl0, hv0⟩ := hL
    exact lv_lstore hx hb hdg hl0 hlt rfl (fun ls' hls => go _ _ _ _ hs2 _ _ _ hP hD hS ⟨_, hls, sm_set2 (v := .long a) hv0 hp⟩)
  case astore_n n =>
    obtain ⟨a, r, rfl, hs1⟩ := sm_sr_inv hs
    obtain ⟨hs2, hp⟩ := sm_st1_inv hs1
    obtain ⟨hn, hlt⟩ : (n : Nat) = x ∧ x < sm_max j := of_decide_eq_true ha
    obtain ⟨l0, hl0, hv0⟩ := hL
    exact lv_astore_n hx hb hdg hn hl0 hlt rfl (fun ls' hls => go _ _ _ _ hs2 _ _ _ hP hD hS ⟨_, hls, sm_set1 (v := .ref a) hv0 hp⟩)
  case astore n =>
    obtain ⟨a, r, rfl, hs1⟩ := sm_sr_inv hs
    obtain ⟨hs2, hp⟩ := sm_st1_inv hs1
    obtain ⟨hn, hlt⟩ : n = x ∧ x < sm_max j := of_decide_eq_true ha
    subst hn
    obtain ⟨l0, hl0, hv0⟩ := hL
    exact lv_astore hx hb hdg hl0 hlt rfl (fun ls' hls => go _ _ _ _ hs2 _ _ _ hP hD hS ⟨_, hls, sm_set1 (v := .ref a) hv0 hp⟩)
  case iinc n b =>
    obtain ⟨a, hg, hs1⟩ := sm_oi_inv hs
    obtain ⟨b', hb', hs2⟩ := sm_oi_inv hs1
    obtain ⟨hs3, hp⟩ := sm_st1_inv hs2
    obtain ⟨hn, hlt, hv⟩ : n = x ∧ x < sm_max j ∧ v = .int (Int32.ofInt b) := of_decide_eq_true ha
    subst hn
    subst hv
    cases hb'
    obtain ⟨l0, hl0, hv0⟩ := hL
    obtain ⟨q0, hq0⟩ := List.getElem?_of_mem (hv0 _ _ hg)
    exact lv_iinc hx hb hdg hl0 hq0 rfl hlt rfl (fun ls' hls => go _ _ _ _ hs3 _ _ _ hP hD hS ⟨_, hls, sm_set1 (v := .int (a + Int32.ofInt b)) hv0 hp⟩)
  case iadd =>
    obtain ⟨b, r, rfl, hs1⟩ := sm_si_inv hs
    obtain ⟨a, r, rfl, hs2⟩ := sm_si_inv hs1
    exact lv_iadd hx hb hdg (go _ _ _ _ hs2 _ _ _ hP hD hS hL)
  case isub =>
    obtain ⟨b, r, rfl, hs1⟩ := sm_si_inv hs
    obtain ⟨a, r, rfl, hs2⟩ := sm_si_inv hs1
    exact lv_isub hx hb hdg (go _ _ _ _ hs2 _ _ _ hP hD hS hL)
  case imul =>
    obtain ⟨b, r, rfl, hs1⟩ := sm_si_inv hs
    obtain ⟨a, r, rfl, hs2⟩ := sm_si_inv hs1
    exact lv_imul hx hb hdg (go _ _ _ _ hs2 _ _ _ hP hD hS hL)
  case iand =>
    obtain ⟨b, r, rfl, hs1⟩ := sm_si_inv hs
    obtain ⟨a, r, rfl, hs2⟩ := sm_si_inv hs1
    exact lv_iand hx hb hdg (go _ _ _ _ hs2 _ _ _ hP hD hS hL)
  case ior =>
    obtain ⟨b, r, rfl, hs1⟩ := sm_si_inv hs
    obtain ⟨a, r, rfl, hs2⟩ := sm_si_inv hs1
    exact lv_ior hx hb hdg (go _ _ _ _ hs2 _ _ _ hP hD hS hL)
  case ixor =>
    obtain ⟨b, r, rfl, hs1⟩ := sm_si_inv hs
    obtain ⟨a, r, rfl, hs2⟩ := sm_si_inv hs1
    exact lv_ixor hx hb hdg (go _ _ _ _ hs2 _ _ _ hP hD hS hL)
  case idiv =>
    obtain ⟨b, r, rfl, hs1⟩ := sm_si_inv hs
    obtain ⟨a, r, rfl, hs2⟩ := sm_si_inv hs1
    obtain ⟨hne, hs3⟩ : _ ∧ _ := hs2
    exact lv_idiv hx hb hdg hne (go _ _ _ _ hs3 _ _ _ hP hD hS hL)
  case irem =>
    obtain ⟨b, r, rfl, hs1⟩ := sm_si_inv hs
    obtain ⟨a, r, rfl, hs2⟩ := sm_si_inv hs1
    obtain ⟨hne, hs3⟩ : _ ∧ _ := hs2
    exact lv_irem hx hb hdg hne (go _ _ _ _ hs3 _ _ _ hP hD hS hL)
  case ishl =>
    obtain ⟨b, r, rfl, hs1⟩ := sm_si_inv hs
    obtain ⟨a, r, rfl, hs2⟩ := sm_si_inv hs1
    exact lv_ishl hx hb hdg (go _ _ _ _ hs2 _ _ _ hP hD hS hL)
  case ishr =>
    obtain ⟨b, r, rfl, hs1⟩ := sm_si_inv hs
    obtain ⟨a, r, rfl, hs2⟩ := sm_si_inv hs1
    exact lv_ishr hx hb hdg (go _ _ _ _ hs2 _ _ _ hP hD hS hL)
  case iushr =>
    obtain ⟨b, r, rfl, hs1⟩ := sm_si_inv hs
    obtain ⟨a, r, rfl, hs2⟩ := sm_si_inv hs1
    exact lv_iushr hx hb hdg rfl (go _ _ _ _ hs2 _ _ _ hP hD hS hL)
  case ladd =>
    obtain ⟨b, r, rfl, hs1⟩ := sm_sl_inv hs
    obtain ⟨a, r, rfl, hs2⟩ := sm_sl_inv hs1
    exact lv_ladd hx hb hdg (go _ _ _ _ hs2 _ _ _ hP hD hS hL)
  case lmul =>
    obtain ⟨b, r, rfl, hs1⟩ := sm_sl_inv hs
    obtain ⟨a, r, rfl, hs2⟩ := sm_sl_inv hs1
    exact lv_lmul hx hb hdg (go _ _ _ _ hs2 _ _ _ hP hD hS hL)
  case land =>
    obtain ⟨b, r, rfl, hs1⟩ := sm_sl_inv hs
    obtain ⟨a, r, rfl, hs2⟩ := sm_sl_inv hs1
    exact lv_land hx hb hdg (go _ _ _ _ hs2 _ _ _ hP hD hS hL)
  case ldiv =>
    obtain ⟨b, r, rfl, hs1⟩ := sm_sl_inv hs
    obtain ⟨a, r, rfl, hs2⟩ := sm_sl_inv hs1
    obtain ⟨hne, hs3⟩ : _ ∧ _ := hs2
    exact lv_ldiv hx hb hdg hne (go _ _ _ _ hs3 _ _ _ hP hD hS hL)
  case lrem =>
    obtain ⟨b, r, rfl, hs1⟩ := sm_sl_inv hs
    obtain ⟨a, r, rfl, hs2⟩ := sm_sl_inv hs1
    obtain ⟨hne, hs3⟩ : _ ∧ _ := hs2
    exact lv_lrem hx hb hdg hne (go _ _ _ _ hs3 _ _ _ hP hD hS hL)
  case lshr =>
    obtain ⟨b, r, rfl, hs1⟩ := sm_si_inv hs
    obtain ⟨a, r, rfl, hs2⟩ := sm_sl_inv hs1
    exact lv_lshr hx hb hdg rfl (go _ _ _ _ hs2 _ _ _ hP hD hS hL)
  case lcmp =>
    obtain ⟨b, r, rfl, hs1⟩ := sm_sl_inv hs
    obtain ⟨a, r, rfl, hs2⟩ := sm_sl_inv hs1
    exact W.lcmp hx hb hdg (go _ _ _ _ hs2 _ _ _ hP hD hS hL)
  case i2l =>
    obtain ⟨a, r, rfl, hs1⟩ := sm_si_inv hs
    exact lv_i2l hx hb hdg rfl (go _ _ _ _ hs1 _ _ _ hP hD hS hL)
  case l2i =>
    obtain ⟨a, r, rfl, hs1⟩ := sm_sl_inv hs
    exact lv_l2i hx hb hdg rfl (go _ _ _ _ hs1 _ _ _ hP hD hS hL)
  case i2b =>
    obtain ⟨a, r, rfl, hs1⟩ := sm_si_inv hs
    exact lv_i2b hx hb hdg rfl (go _ _ _ _ hs1 _ _ _ hP hD hS hL)
  case dup =>
    obtain ⟨a, r, rfl, hs1⟩ := sm_sv_inv hs
    obtain ⟨hc1, hs2⟩ := sm_cond_inv hs1
    exact lv_dup hx hb hdg ((sm_rv_cat ad a).trans (Nat.eq_of_beq_eq_true hc1)) (go _ _ _ _ hs2 _ _ _ hP hD hS hL)
  case dup2 =>
    obtain ⟨a, r, rfl, hs1⟩ := sm_sv_inv hs
    obtain ⟨b, r, rfl, hs2⟩ := sm_sv_inv hs1
    obtain ⟨hc1, hs3⟩ := sm_cond_inv hs2
    obtain ⟨hc2, hs4⟩ := sm_cond_inv hs3
    exact lv_dup2_11 hx hb hdg ((sm_rv_cat ad a).trans (Nat.eq_of_beq_eq_true hc1)) ((sm_rv_cat ad b).trans (Nat.eq_of_beq_eq_true hc2)) (go _ _ _ _ hs4 _ _ _ hP hD hS hL)
  case ifCond cnd o =>
    obtain ⟨a, r, rfl, hs1⟩ := sm_si_inv hs
    have ht : (pc : Int) + o = (x : Int) := of_decide_eq_true ha
    cases cnd
    case eq => obtain ⟨s1, s2⟩ : _ ∧ _ := hs1; exact lv_if_eq hx hb hdg ht (fun q => go _ _ _ _ (s1 q) _ _ _ hP hD hS hL) (fun q => go _ _ _ _ (s2 q) _ _ _ hP hD hS hL)
    case ne => obtain ⟨s1, s2⟩ : _ ∧ _ := hs1; exact lv_if_ne hx hb hdg ht (fun q => go _ _ _ _ (s1 q) _ _ _ hP hD hS hL) (fun q => go _ _ _ _ (s2 q) _ _ _ hP hD hS hL)
    case lt => obtain ⟨s1, s2⟩ : _ ∧ _ := hs1; exact lv_if_lt hx hb hdg ht (fun q => go _ _ _ _ (s1 q) _ _ _ hP hD hS hL) (fun q => go _ _ _ _ (s2 q) _ _ _ hP hD hS hL)
    case ge => obtain ⟨s1, s2⟩ : _ ∧ _ := hs1; exact lv_if_ge hx hb hdg ht (fun q => go _ _ _ _ (s1 q) _ _ _ hP hD hS hL) (fun q => go _ _ _ _ (s2 q) _ _ _ hP hD hS hL)
    case gt => obtain ⟨s1, s2⟩ : _ ∧ _ := hs1; exact lv_if_gt hx hb hdg ht (fun q => go _ _ _ _ (s1 q) _ _ _ hP hD hS hL) (fun q => go _ _ _ _ (s2 q) _ _ _ hP hD hS hL)
    case le => obtain ⟨s1, s2⟩ : _ ∧ _ := hs1; exact lv_if_le hx hb hdg ht (fun q => go _ _ _ _ (s1 q) _ _ _ hP hD hS hL) (fun q => go _ _ _ _ (s2 q) _ _ _ hP hD hS hL)
  case if_icmp cnd o =>
    obtain ⟨b, r, rfl, hs1⟩ := sm_si_inv hs
    obtain ⟨a, r, rfl, hs2⟩ := sm_si_inv hs1
    have ht : (pc : Int) + o = (x : Int) := of_decide_eq_true ha
    cases cnd
    case eq => obtain ⟨s1, s2⟩ : _ ∧ _ := hs2; exact lv_icmp_eq hx hb hdg ht (fun q => go _ _ _ _ (s1 q) _ _ _ hP hD hS hL) (fun q => go _ _ _ _ (s2 q) _ _ _ hP hD hS hL)
    case ne => obtain ⟨s1, s2⟩ : _ ∧ _ := hs2; exact lv_icmp_ne hx hb hdg ht (fun q => go _ _ _ _ (s1 q) _ _ _ hP hD hS hL) (fun q => go _ _ _ _ (s2 q) _ _ _ hP hD hS hL)
    case lt => obtain ⟨s1, s2⟩ : _ ∧ _ := hs2; exact lv_icmp_lt hx hb hdg ht (fun q => go _ _ _ _ (s1 q) _ _ _ hP hD hS hL) (fun q => go _ _ _ _ (s2 q) _ _ _ hP hD hS hL)
    case ge => obtain ⟨s1, s2⟩ : _ ∧ _ := hs2; exact lv_icmp_ge hx hb hdg ht (fun q => go _ _ _ _ (s1 q) _ _ _ hP hD hS hL) (fun q => go _ _ _ _ (s2 q) _ _ _ hP hD hS hL)
    case gt => obtain ⟨s1, s2⟩ : _ ∧ _ := hs2; exact lv_icmp_gt hx hb hdg ht (fun q => go _ _ _ _ (s1 q) _ _ _ hP hD hS hL) (fun q => go _ _ _ _ (s2 q) _ _ _ hP hD hS hL)
    case le => obtain ⟨s1, s2⟩ : _ ∧ _ := hs2; exact lv_icmp_le hx hb hdg ht (fun q => go _ _ _ _ (s1 q) _ _ _ hP hD hS hL) (fun q => go _ _ _ _ (s2 q) _ _ _ hP hD hS hL)
  case goto o =>
    have ht : (pc : Int) + o = (x : Int) := of_decide_eq_true ha
    exact lv_goto hx hb hdg ht (go _ _ _ _ hs _ _ _ hP hD hS hL)
  case tableswitch df lo hi o =>
    obtain ⟨a, r, rfl, hs1⟩ := sm_si_inv hs
    replace ha := Bool.and_eq_true_iff.mp ha
    obtain ⟨ha1, ha2⟩ := ha
    obtain ⟨ht, hlo, hhi, hno, hlen⟩ : (pc : Int) + df = (x : Int) ∧ -1000 ≤ lo ∧ hi < 1000 ∧ hi - lo + 1 = (o.size : Int) ∧ sw.length = o.size := of_decide_eq_true ha1
    have hrow : ∀ (i : Nat) (q : Int32 × Nat), sw[i]? = some q → ∃ w, o[i]? = some w ∧ q.1 = Int32.ofInt (lo + (i : Int)) ∧ (pc : Int) + w = (q.2 : Int) := by
      intro i q hq
      have hi1 : i < sw.length := (List.getElem?_eq_some_iff.mp hq).1
      have h1 := List.all_eq_true.mp ha2 i (List.mem_range.mpr (by omega))
      rw [sm_nth_eq, hq] at h1
      have ho : o[i]? = some (o[i]'(by omega)) := Array.getElem?_eq_getElem (by omega)
      rw [ho] at h1
      exact ⟨_, ho, of_decide_eq_true h1⟩
    rcases sm_sw_inv hs1 with ⟨i, t, e1, e2, e3⟩ | ⟨e1, e2⟩
    · obtain ⟨w, w1, w2, w3⟩ := hrow i _ e1
      have hi1 : i < sw.length := (List.getElem?_eq_some_iff.mp e1).1
      have hai : a.toInt = lo + (i : Int) := by
        have w2 : a = Int32.ofInt (lo + (i : Int)) := w2
        rw [w2]
        exact Int32.toInt_ofInt_of_le (by show (-2147483648 : Int) ≤ _; omega) (by show _ < (2147483648 : Int); omega)
      exact lv_tableIn hx hb hdg (by omega) (by omega) (by rw [hai, show (lo + (i : Int) - lo).toNat = i by omega]; exact w1) w3 (go _ _ _ _ e3 _ _ _ hP hD hS hL)
    · refine lv_tableOut hx hb hdg ?_ ht (go _ _ _ _ e2 _ _ _ hP hD hS hL)
      refine Decidable.byContradiction fun hcon => ?_
      have hin : lo ≤ a.toInt ∧ a.toInt ≤ hi := by omega
      have hi1 : (a.toInt - lo).toNat < sw.length := by omega
      obtain ⟨w, w1, w2, w3⟩ := hrow _ _ (List.getElem?_eq_getElem hi1)
      refine e1 _ (List.getElem_mem hi1) ?_
      rw [w2, show lo + (((a.toInt - lo).toNat : Nat) : Int) = a.toInt by omega, Int32.ofInt_toInt]
  case lookupswitch df ps =>
    obtain ⟨a, r, rfl, hs1⟩ := sm_si_inv hs
    obtain ⟨ht, hsort, hmap⟩ : (pc : Int) + df = (x : Int) ∧ (ps.toList.zip (ps.toList.drop 1)).all (fun q => q.1.1 < q.2.1) = true ∧ sw.map (fun q => (q.1.toInt, (q.2 : Int))) = ps.toList.map (fun q => (q.1, (pc : Int) + q.2)) := of_decide_eq_true ha
    have key : ∃ t : Nat, (pc : Int) + Op.lookupswitch.offset ps.toList df a.toInt = (t : Int) ∧ k t ls r h := by
      generalize ps.toList = pl at hmap
      clear hdg hsort ha go hs
      induction sw generalizing pl with
      | nil =>
        cases pl with
        | nil => exact ⟨x, by simpa [Op.lookupswitch.offset] using ht, hs1⟩
        | cons q0 q1 => simp at hmap
      | cons w sw ih =>
        cases pl with
        | nil => simp at hmap
        | cons q0 q1 =>
          simp only [List.map_cons, List.cons.injEq, Prod.mk.injEq] at hmap
          obtain ⟨s1, s2⟩ : _ ∧ _ := hs1
          by_cases hw : a = w.1
          · refine ⟨w.2, ?_, s1 hw⟩
            have : q0.1 = a.toInt := by rw [hw]; exact hmap.1.1.symm
            simp [Op.lookupswitch.offset, this, hmap.1.2]
          · obtain ⟨t, t1, t2⟩ := ih (s2 hw) q1 hmap.2
            refine ⟨t, ?_, t2⟩
            have hne : ¬ q0.1 = a.toInt := fun q => hw (Int32.toInt_inj.mp (by rw [← q, hmap.1.1]))
            simpa [Op.lookupswitch.offset, hne] using t1
    obtain ⟨t, t1, t2⟩ := key
    exact lv_lookup hx hb hdg hsort rfl t1 (go _ _ _ _ t2 _ _ _ hP hD hS hL)
  case ireturn =>
    obtain ⟨a, r, rfl, hs1⟩ := sm_si_inv hs
    cases r with
    | cons _ _ => exact False.elim hs1
    | nil =>
      cases y with
      | zero => exact hret H locs lsA pc (some (.int a)) h ⟨hdg, .int, of_decide_eq_true ha, rfl⟩ hs1 hP hD hS
      | succ n =>
        obtain ⟨h01, hs2⟩ : _ ∧ _ := hs1
        exact hret H locs lsA pc (some (.int a)) h ⟨hdg, .boolean, of_decide_eq_true ha, by rcases h01 with rfl | rfl <;> rfl⟩ hs2 hP hD hS
  case lreturn =>
    obtain ⟨a, r, rfl, hs1⟩ := sm_sl_inv hs
    cases r with
    | cons _ _ => exact False.elim hs1
    | nil => exact hret H locs lsA pc (some (.long a)) h ⟨hdg, of_decide_eq_true ha⟩ hs1 hP hD hS
  case return_ =>
    cases st with
    | cons _ _ => exact False.elim hs
    | nil => exact hret H locs lsA pc none h ⟨hdg, of_decide_eq_true ha⟩ hs hP hD hS
  case iaload =>
    obtain ⟨q, r, rfl, hs1⟩ := sm_si_inv hs
    obtain ⟨a, r, rfl, hs2⟩ := sm_sr_inv hs1
    rcases sm_ha_inv hs2 with ⟨t, x', hn, hs3⟩ | hs3
    · obtain ⟨ht, hs4⟩ := sm_cond_inv hs3
      obtain ⟨n, g, rfl, hs5⟩ := sm_xi_inv hs4
      obtain ⟨hin, hs6⟩ : _ ∧ _ := hs5
      cases Nat.eq_of_beq_eq_true ht
      exact va_iald (D := D) (cl := vwCl) hx hb hK hP a 0 (sm_rw_at hn) rfl (sm_in_inv hin) hdg (go _ _ _ _ hs6 _ _ _ hP hD hS hL)
    · cases sc with
      | none => exact False.elim hs3
      | some w =>
        obtain ⟨ht, hs7⟩ := sm_cond_inv hs3
        obtain ⟨hin, hs8⟩ : _ ∧ _ := hs7
        cases Nat.eq_of_beq_eq_true ht
        obtain ⟨x1, x2, x3⟩ := hscr _ rfl
        exact va_sld hx hb x1 x2 x3 hS (sm_in_inv hin) hdg (go _ _ _ _ hs8 _ _ _ hP hD hS hL)
  case iastore =>
    obtain ⟨w, r, rfl, hs1⟩ := sm_si_inv hs
    obtain ⟨q, r, rfl, hs2⟩ := sm_si_inv hs1
    obtain ⟨a, r, rfl, hs3⟩ := sm_sr_inv hs2
    rcases sm_ha_inv hs3 with ⟨t, x', hn, hs4⟩ | hs4
    · obtain ⟨ht, hs5⟩ := sm_cond_inv hs4
      obtain ⟨n, g, rfl, hs6⟩ := sm_xi_inv hs5
      obtain ⟨hin, hs7⟩ : _ ∧ _ := hs6
      cases Nat.eq_of_beq_eq_true ht
      refine va_iast (D := D) (cl := vwCl) hx hb hK hP hD hS a 0 (sm_rw_at hn) rfl (sm_in_inv hin) hdg (fun H1 locs1 hP hD hS => ?_)
      exact go _ _ _ _ hs7 _ _ _ (by rw [sm_rw_set]; exact hP) (by rw [sm_rw_set]; exact hD) hS hL
    · exact False.elim hs4
  case baload =>
    obtain ⟨q, r, rfl, hs1⟩ := sm_si_inv hs
    obtain ⟨a, r, rfl, hs2⟩ := sm_sr_inv hs1
    rcases sm_ha_inv hs2 with ⟨t, x', hn, hs3⟩ | hs3
    · obtain ⟨ht, hs4⟩ := sm_cond_inv hs3
      obtain ⟨n, g, rfl, hs5⟩ := sm_xi_inv hs4
      obtain ⟨hin, hs6⟩ : _ ∧ _ := hs5
      cases Nat.eq_of_beq_eq_true ht
      exact va_bald (D := D) (cl := vwCl) hx hb hK hP a 2 (sm_rw_at hn) rfl (sm_in_inv hin) hdg (go _ _ _ _ hs6 _ _ _ hP hD hS hL)
    · exact False.elim hs3
  case bastore =>
    obtain ⟨w, r, rfl, hs1⟩ := sm_si_inv hs
    obtain ⟨q, r, rfl, hs2⟩ := sm_si_inv hs1
    obtain ⟨a, r, rfl, hs3⟩ := sm_sr_inv hs2
    rcases sm_ha_inv hs3 with ⟨t, x', hn, hs4⟩ | hs4
    · obtain ⟨ht, hs5⟩ := sm_cond_inv hs4
      obtain ⟨n, g, rfl, hs6⟩ := sm_xi_inv hs5
      obtain ⟨hin, hs7⟩ : _ ∧ _ := hs6
      cases Nat.eq_of_beq_eq_true ht
      refine va_bast (D := D) (cl := vwCl) hx hb hK hP hD hS a 2 (sm_rw_at hn) rfl (sm_in_inv hin) hdg (fun H1 locs1 hP hD hS => ?_)
      exact go _ _ _ _ hs7 _ _ _ (by rw [sm_rw_set]; exact hP) (by rw [sm_rw_set]; exact hD) hS hL
    · exact False.elim hs4
  case laload =>
    obtain ⟨q, r, rfl, hs1⟩ := sm_si_inv hs
    obtain ⟨a, r, rfl, hs2⟩ := sm_sr_inv hs1
    rcases sm_ha_inv hs2 with ⟨t, x', hn, hs3⟩ | hs3
    · obtain ⟨ht, hs4⟩ := sm_cond_inv hs3
      obtain ⟨n, g, rfl, hs5⟩ := sm_xl_inv hs4
      obtain ⟨hin, hs6⟩ : _ ∧ _ := hs5
      cases Nat.eq_of_beq_eq_true ht
      exact va_lald (D := D) (cl := vwCl) hx hb hK hP a 1 (sm_rw_at hn) rfl (sm_in_inv hin) hdg (go _ _ _ _ hs6 _ _ _ hP hD hS hL)
    · exact False.elim hs3
  case lastore =>
    obtain ⟨w, r, rfl, hs1⟩ := sm_sl_inv hs
    obtain ⟨q, r, rfl, hs2⟩ := sm_si_inv hs1
    obtain ⟨a, r, rfl, hs3⟩ := sm_sr_inv hs2
    rcases sm_ha_inv hs3 with ⟨t, x', hn, hs4⟩ | hs4
    · obtain ⟨ht, hs5⟩ := sm_cond_inv hs4
      obtain ⟨n, g, rfl, hs6⟩ := sm_xl_inv hs5
      obtain ⟨hin, hs7⟩ : _ ∧ _ := hs6
      cases Nat.eq_of_beq_eq_true ht
      refine va_last (D := D) (cl := vwCl) hx hb hK hP hD hS a 1 (sm_rw_at hn) rfl (sm_in_inv hin) hdg (fun H1 locs1 hP hD hS => ?_)
      exact go _ _ _ _ hs7 _ _ _ (by rw [sm_rw_set]; exact hP) (by rw [sm_rw_set]; exact hD) hS hL
    · exact False.elim hs4
  case aaload =>
    obtain ⟨q, r, rfl, hs1⟩ := sm_si_inv hs
    obtain ⟨a, r, rfl, hs2⟩ := sm_sr_inv hs1
    rcases sm_ha_inv hs2 with ⟨t, x', hn, hs3⟩ | hs3
    · obtain ⟨ht, hs4⟩ := sm_cond_inv hs3
      obtain ⟨n, g, rfl, hs5⟩ := sm_xr_inv hs4
      obtain ⟨hin, b, hb', hs6⟩ : _ ∧ ∃ b, _ ∧ _ := hs5
      cases Nat.eq_of_beq_eq_true ht
      refine sm_aald (D := D) (cl := vwCl) hx hb hK hP a 3 (ty := .array .int) rfl (sm_rw_at hn) rfl (sm_in_inv hin) hdg ?_
      rw [hb']
      exact go _ _ _ _ hs6 _ _ _ hP hD hS hL
    · exact False.elim hs3
  case arraylength =>
    obtain ⟨a, r, rfl, hs1⟩ := sm_sr_inv hs
    rcases sm_ha_inv hs1 with ⟨t, x', hn, hs2⟩ | hs2
    · obtain ⟨ht4, hs9⟩ := sm_cond_inv hs2
      have ht4 : t < 4 := Nat.le_of_ble_eq_true ht4
      have hty : ∃ ty, (sm_tys G)[t]? = some (G t, ty) := by
        match t, ht4 with
        | 0, _ => exact ⟨_, rfl⟩
        | 1, _ => exact ⟨_, rfl⟩
        | 2, _ => exact ⟨_, rfl⟩
        | 3, _ => exact ⟨_, rfl⟩
      obtain ⟨ty, hty⟩ := hty
      have hx1 : (sm_ra ad x').1 = x'.1 := by
        obtain ⟨n, f | f | f | f | f⟩ := x' <;> rfl
      exact va_alen (D := D) (cl := vwCl) hx hb hK hP a t (sm_rw_at hn) hty rfl hdg (by rw [hx1]; exact go _ _ _ _ hs9 _ _ _ hP hD hS hL)
    · cases sc with
      | none => exact False.elim hs2
      | some w =>
        obtain ⟨ht, hs3⟩ := sm_cond_inv hs2
        cases Nat.eq_of_beq_eq_true ht
        obtain ⟨x1, x2, x3⟩ := hscr _ rfl
        exact va_slen hx hb x1 x2 x3 hS hdg (go _ _ _ _ hs3 _ _ _ hP hD hS hL)
  case getfield idx =>
    obtain ⟨a, r, rfl, hs1⟩ := sm_sr_inv hs
    obtain ⟨ci, fs, hn, hs2⟩ := sm_ho_inv hs1
    obtain ⟨hcx, hs3⟩ := sm_cond_inv hs2
    obtain ⟨w, hw, hs4⟩ := sm_fld_inv hs3
    have hcx := Nat.eq_of_beq_eq_true hcx
    subst hcx
    replace ha := Bool.and_eq_true_iff.mp ha
    obtain ⟨ha1, ha2⟩ := ha
    obtain ⟨h6, hy⟩ : ci < 6 ∧ y < (sm_cl ci).2.2 := of_decide_eq_true ha1
    exact va_get (D := D) (cl := vwCl) (ci := ci) (C := (sm_cl ci).1) (T := (sm_cl ci).2.1) (N := (sm_cl ci).2.2) hx hb hts (sm_cl_in h6) hown hK hP a (sm_rw_at hn) (sm_cl_at h6) y hy (hts _ (sm_has_in ha2)) (fun _ q => q) (by rw [List.getElem?_map, hw]; rfl) hdg (go _ _ _ _ hs4 _ _ _ hP hD hS hL)
  case putfield idx =>
    obtain ⟨w, b, r, rfl, hs1, hw⟩ := sm_store_inv (show sm_store v st (fun w a r => sm_ho h a fun c fs => cond (Nat.beq c x) (cond (Nat.blt y fs.length) (k (pc + 3) ls r (h.set a (.inr (c, fs.set y w)))) False) False) from hs)
    obtain ⟨ci, fs, hn, hs2⟩ := sm_ho_inv hs1
    obtain ⟨hcx, hs3⟩ := sm_cond_inv hs2
    obtain ⟨hlt, hs4⟩ := sm_cond_inv hs3
    have hcx := Nat.eq_of_beq_eq_true hcx
    subst hcx
    replace ha := Bool.and_eq_true_iff.mp ha
    obtain ⟨ha0, ha3⟩ := ha
    replace ha0 := Bool.and_eq_true_iff.mp ha0
    obtain ⟨ha1, ha2⟩ := ha0
    obtain ⟨h6, hy, hfin⟩ : ci < 6 ∧ y < (sm_cl ci).2.2 ∧ ((sm_cl ci).2.1 y).2.2.2 = false := of_decide_eq_true ha1
    have hlen : y < (fs.map (sm_rv ad)).length := by rw [List.length_map]; exact Nat.le_of_ble_eq_true hlt
    have hty : ∃ ty, parseFieldDescriptor ((sm_cl ci).2.1 y).2.2.1 = some ty ∧ narrow ty (sm_rv ad w) = sm_rv ad w ∧ fits ty (sm_rv ad w) = true := by
      rcases hw with ⟨z0, a0, rfl, rfl⟩ | ⟨z0, a0, rfl, rfl⟩ | ⟨rfl, a0, rfl, h01⟩
      · exact ⟨.int, by rw [of_decide_eq_true ha3]; rfl, rfl, rfl⟩
      · exact ⟨.long, by rw [of_decide_eq_true ha3]; rfl, rfl, rfl⟩
      · refine ⟨.boolean, by rw [of_decide_eq_true ha3]; rfl, ?_, ?_⟩ <;> rcases h01 with rfl | rfl <;> rfl
    obtain ⟨ty, t1, t2, t3⟩ := hty
    refine va_put (D := D) (cl := vwCl) (ci := ci) (C := (sm_cl ci).1) (T := (sm_cl ci).2.1) (N := (sm_cl ci).2.2) hx hb hts (sm_cl_in h6) (sm_fty ci) (sm_cl_ty h6) (sm_cl_nm h6) hown hK hP hD hS b (sm_rw_at hn) (sm_cl_at h6) y hy (hts _ (sm_has_in ha2)) (fun _ q => q) hfin t1 t2 t3 hlen hdg (fun H1 locs1 hP hD hS => ?_)
    have e : sm_rw G ad (h.set b (.inr (ci, fs.set y w))) = (sm_rw G ad h).set b (ad b, .inr (ci, (fs.map (sm_rv ad)).set y (sm_rv ad w))) := by
      rw [sm_rw_set]
      simp [sm_re, List.map_set]
    exact go _ _ _ _ hs4 _ _ _ (by rw [e]; exact hP) (by rw [e]; exact hD) hS hL
  case invokevirtual idx =>
    obtain ⟨as, r, hlen, rfl, hs1⟩ := sm_pop_inv _ _ _ _ hs
    obtain ⟨b, r, rfl, hs2⟩ := sm_sr_inv hs1
    obtain ⟨hcat, hs3⟩ := sm_cond_inv hs2
    obtain ⟨ci, fs, hn, hs4⟩ := sm_ho_inv hs3
    obtain ⟨c0, hv, hs5⟩ := sm_or_inv hs4
    obtain ⟨hcc, hs6⟩ := sm_cond_inv hs5
    rw [List.append_nil] at hs6
    have hcc := Nat.eq_of_beq_eq_true hcc
    subst hcc
    cases hv
    replace ha := Bool.and_eq_true_iff.mp ha
    obtain ⟨ha, hb6⟩ := ha
    replace ha := Bool.and_eq_true_iff.mp ha
    obtain ⟨ha, hb5⟩ := ha
    replace ha := Bool.and_eq_true_iff.mp ha
    obtain ⟨ha, hb4⟩ := ha
    replace ha := Bool.and_eq_true_iff.mp ha
    obtain ⟨ha, hb3⟩ := ha
    replace ha := Bool.and_eq_true_iff.mp ha
    obtain ⟨hb1, hb2⟩ := ha
    obtain ⟨h6, hcl⟩ : c0 < 6 ∧ (sm_cl c0).1 = (sm_y x).cls := of_decide_eq_true hb6
    have hmx : sm_max x ≤ 40 := of_decide_eq_true hb5
    simp only [sm_npar, Bool.and_eq_true, decide_eq_true_eq] at hb3
    simp only [sm_mvirt, Bool.and_eq_true] at hb2
    have hini : Jvm.Cond.initialized (sm_y x).cls ∈ sm_all := by
      have := hb1
      simp only [sm_mwords, Bool.and_eq_true] at this
      exact sm_has_in this.2
    have hG : GoodIn sm_all (wsV (sm_y j).cls idx (sm_y x).cls (sm_y x) (sm_ws x)) :=
      sm_good_cons (sm_has_in hb4) (sm_good_cons (sm_has_in hb2.1) (sm_good_cons (sm_has_in hb2.2) (sm_good_cons hini (sm_good_ws hb1))))
    have hr := va_runV (p := p) (l := l) (e := e) (R := R) (s := s) (m := m) (args := args) (below := below) (meth := meth) (c := c) (H := H) (locs := locs) (cells := cells) (slots := slots) (g := F0 m pc lsA ((as.reverse ++ .ref b :: r).map (sm_rv ad))) (As := as.map (sm_rv ad)) (rest := r.map (sm_rv ad)) (index := idx) (C := (sm_y x).cls) (b := ad b) (n := y) (mc := 0) (ms := 0) (bytes := sm_code x) (maxL := sm_max x) (ret := sm_ret x)
      ⟨hx, hb, hml, hown, hts⟩ (hs6 l D G ad H.size)
      (cwV y hts hG rfl rfl rfl ⟨rfl, hb3.1.1, hb3.1.2, hb3.2⟩ ⟨hRm.1, by have := hRm.2; show 8 + (sm_max x + 11) + 64 * d ≤ R.locals; omega⟩)
      ⟨sm_blind, by rw [← hcl]; exact va_recv (D := D) (cl := vwCl) (ci := c0) (q0 := b) hK hP (sm_cl_at h6) (sm_rw_at hn), fun U hU hW => ⟨rfl, by rw [hU], by rw [hU]; exact hP, va_K.moved hW.alike hK, hD.weaken (fun _ _ _ _ => trivial)⟩⟩
      rfl (by rw [List.length_map]; exact hlen) hsz (by simp [sm_rv, List.map_reverse]) (lv_room (by rw [sm_rv_sum]; exact Nat.le_of_ble_eq_true hcat)) hdg ⟨by omega, by omega⟩
    refine sm_after hr hS (sm_free hD hS hA) (sm_free hD hS hA) (fun w h1 H1 locs1 hq hP hD hS => ?_)
    cases w with
    | none => exact go _ _ _ _ hq _ _ _ hP hD hS hL
    | some w => exact go _ _ _ _ hq _ _ _ hP hD hS hL
  case invokestatic idx =>
    obtain ⟨as, r, hlen, rfl, hs1⟩ := sm_pop_inv _ _ _ _ hs
    obtain ⟨hcat, hs2⟩ := sm_cond_inv hs1
    rw [List.append_nil] at hs2
    replace ha := Bool.and_eq_true_iff.mp ha
    obtain ⟨ha, hb5⟩ := ha
    replace ha := Bool.and_eq_true_iff.mp ha
    obtain ⟨ha, hb4⟩ := ha
    replace ha := Bool.and_eq_true_iff.mp ha
    obtain ⟨ha, hb3⟩ := ha
    replace ha := Bool.and_eq_true_iff.mp ha
    obtain ⟨hb1, hb2⟩ := ha
    have hmx : sm_max x ≤ 40 := of_decide_eq_true hb5
    simp only [sm_npar, Bool.and_eq_true, decide_eq_true_eq] at hb3
    simp only [sm_mstat] at hb2
    have hini : Jvm.Cond.initialized (sm_y x).cls ∈ sm_all := by
      have := hb1
      simp only [sm_mwords, Bool.and_eq_true] at this
      exact sm_has_in this.2
    have hG : GoodIn sm_all (va_wsS (sm_y j).cls idx (sm_y x) (sm_ws x)) :=
      sm_good_cons (sm_has_in hb4) (sm_good_cons (sm_has_in hb2) (sm_good_cons hini (sm_good_ws hb1)))
    have hr := va_runS (p := p) (l := l) (e := e) (R := R) (s := s) (m := m) (args := args) (below := below) (meth := meth) (c := c) (H := H) (locs := locs) (cells := cells) (slots := slots) (g := F0 m pc lsA ((as.reverse ++ r).map (sm_rv ad))) (As := as.map (sm_rv ad)) (rest := r.map (sm_rv ad)) (index := idx) (n := y) (mc := 0) (ms := 0) (bytes := sm_code x) (maxL := sm_max x) (ret := sm_ret x)
      ⟨hx, hb, hml, hown, hts⟩ (hs2 l D G ad H.size)
      (va_cwS y hts hG rfl rfl rfl ⟨hb3.1.1, hb3.1.2, hb3.2⟩ ⟨hRm.1, by have := hRm.2; show 8 + (sm_max x + 11) + 64 * d ≤ R.locals; omega⟩)
      ⟨sm_blind, fun U hU hW => ⟨rfl, by rw [hU], by rw [hU]; exact hP, va_K.moved hW.alike hK, hD.weaken (fun _ _ _ _ => trivial)⟩⟩
      rfl (by rw [List.length_map]; exact hlen) hsz (by simp [sm_rv, List.map_reverse]) (lv_room (by rw [sm_rv_sum]; exact Nat.le_of_ble_eq_true hcat)) hdg ⟨by omega, by omega⟩
    refine sm_after hr hS (sm_free hD hS hA) (sm_free hD hS hA) (fun w h1 H1 locs1 hq hP hD hS => ?_)
    cases w with
    | none => exact go _ _ _ _ hq _ _ _ hP hD hS hL
    | some w => exact go _ _ _ _ hq _ _ _ hP hD hS hL
  all_goals exact False.elim hs
theorem sm_from_mem {tb : List sm_I} {pc : Nat} : (∀ e ∈ sm_from tb pc, e ∈ tb) ∧ ∀ e tl, sm_from tb pc = e :: tl → e.1 = pc := by
  induction tb with
  | nil => exact ⟨fun e h => h, fun e tl h => by cases h⟩
  | cons q r ih =>
    unfold sm_from
    cases hq : Nat.beq q.1 pc with
    | true =>
      refine ⟨fun e h => h, fun e tl h => ?_⟩
      cases h
      exact Nat.eq_of_beq_eq_true hq
    | false => exact ⟨fun e h => List.mem_cons_of_mem _ (ih.1 e h), fun e tl h => ih.2 e tl h⟩
theorem sm_next_mem {tb tl : List sm_I} {pc : Nat} (h : ∀ e ∈ tl, e ∈ tb) : (∀ e ∈ sm_next tb tl pc, e ∈ tb) ∧ ∀ e tl', sm_next tb tl pc = e :: tl' → e.1 = pc := by
  cases tl with
  | nil => exact sm_from_mem
  | cons q r =>
    unfold sm_next
    dsimp only
    cases hq : Nat.beq q.1 pc with
    | true =>
      refine ⟨h, fun e tl' h => ?_⟩
      cases h
      exact Nat.eq_of_beq_eq_true hq
    | false => exact sm_from_mem
theorem sm_run_ok {j d : Nat} {Q : sm_Q} {sc : Option (Nat × (Nat → Int32))} {stop : List Nat} (hall : (sm_tab j).all (sm_chk j) = true) :
    ∀ (n : Nat) (suf : List sm_I) (pc : Nat) (ls : sm_L) (st : List Value) (h : sm_H), (∀ e ∈ suf, e ∈ sm_tab j) → (∀ e tl, suf = e :: tl → e.1 = pc) →
      sm_run (sm_call d) Q sc (sm_tab j) stop (sm_W j d Q sc) n suf ls st h → sm_W j d Q sc pc ls st h := by
  intro n
  induction n with
  | zero => intro suf pc ls st h _ _ hr; exact False.elim hr
  | succ n ih =>
    intro suf pc ls st h hm hp hr
    cases suf with
    | nil => exact False.elim hr
    | cons e tl =>
      have hpc := hp e tl rfl
      subst hpc
      refine sm_step_ok e (List.all_eq_true.mp hall e (hm e List.mem_cons_self)) (k := fun pc ls st h => cond (sm_mem stop pc) (sm_W j d Q sc pc ls st h) (sm_run (sm_call d) Q sc (sm_tab j) stop (sm_W j d Q sc) n (sm_next (sm_tab j) tl pc) ls st h)) ?_ hr
      intro pc ls st h hk
      cases hs : sm_mem stop pc with
      | true => rw [hs] at hk; exact hk
      | false =>
        rw [hs] at hk
        have hn := sm_next_mem (pc := pc) (fun e he => hm e (List.mem_cons_of_mem _ he))
        exact ih _ pc ls st h hn.1 hn.2 hk
/-- a run from a pc on -/
theorem sm_go {j d : Nat} {Q : sm_Q} {sc : Option (Nat × (Nat → Int32))} (stop : List Nat) (n : Nat) (hall : (sm_tab j).all (sm_chk j) = true) {pc : Nat} {ls : sm_L} {st : List Value} {h : sm_H}
    (hr : sm_run (sm_call d) Q sc (sm_tab j) stop (sm_W j d Q sc) n (sm_from (sm_tab j) pc) ls st h) : sm_W j d Q sc pc ls st h :=
  sm_run_ok hall n _ pc ls st h sm_from_mem.1 sm_from_mem.2 hr
def sm_ent : List Value → sm_L
  | [] => []
  | v :: r => if v.category = 2 then some v :: none :: sm_ent r else some v :: sm_ent r
theorem sm_ent_args : ∀ (as : List Value) (ad : Nat → Nat) (k i : Nat) (v : Value), sm_get (sm_ent as) i = some v → (k + i, sm_rv ad v) ∈ lv_args k (as.map (sm_rv ad))
  | [], ad, k, i, v, h => by cases h
  | w :: r, ad, k, i, v, h => by
    simp only [List.map_cons, lv_args]
    by_cases hc : w.category = 2
    · rw [sm_ent, if_pos hc] at h
      rw [if_pos (by rw [sm_rv_cat]; exact hc)]
      match i, h with
      | 0, h => cases h; exact List.mem_cons_self
      | 1, h => cases h
      | i + 2, h =>
        have := sm_ent_args r ad (k + 2) i v h
        rw [show k + (i + 2) = k + 2 + i by omega]
        exact List.mem_cons_of_mem _ this
    · rw [sm_ent, if_neg hc] at h
      rw [if_neg (by rw [sm_rv_cat]; exact hc)]
      match i, h with
      | 0, h => cases h; exact List.mem_cons_self
      | i + 1, h =>
        have := sm_ent_args r ad (k + 1) i v h
        rw [show k + (i + 1) = k + 1 + i by omega]
        exact List.mem_cons_of_mem _ this
theorem sm_sl_len (ad : Nat → Nat) : ∀ (as : List Value), (lg_sl (as.map (sm_rv ad))).length = (sm_ent as).length
  | [] => rfl
  | v :: r => by
    have ih := sm_sl_len ad r
    simp only [lg_sl] at ih ⊢
    by_cases hc : v.category = 2
    · simp [sm_ent, hc, sm_rv_cat, ih]
    · simp [sm_ent, hc, sm_rv_cat, ih]
theorem sm_get_pad {l : sm_L} {n i : Nat} {v : Value} (h : sm_get (l ++ List.replicate n none) i = some v) : sm_get l i = some v := by
  unfold sm_get at h ⊢
  rw [sm_nth_eq] at h ⊢
  by_cases hi : i < l.length
  · rwa [List.getElem?_append_left hi] at h
  · rw [List.getElem?_append_right (by omega)] at h
    by_cases h2 : i - l.length < n
    · rw [List.getElem?_replicate, if_pos h2] at h
      cases h
    · rw [List.getElem?_replicate, if_neg h2] at h
      cases h
/-- from a walk of the body to the contract -/
theorem sm_enter {j d : Nat} {as : List Value} {h : sm_H} {Q : sm_Q} (ls : sm_L) (hls : ls = sm_ent as ++ List.replicate (sm_max j - (sm_ent as).length) none) (hlen : Nat.ble (sm_ent as).length (sm_max j) = true) (hpl : plainName (sm_y j).cls = true)
    (hw : sm_W j d Q none 0 ls [] h) : sm_call (d + 1) j as h Q := by
  intro l D G ad sz
  refine Met.ofW (cc := sm_code j) (maxL := sm_max j) (ret := sm_ret j) hpl rfl ?_
  intro p e s m args below meth c s₁ B hml hv
  obtain ⟨rfl, hsz, hP, hK, hD0⟩ := hv
  have hx := B.exec
  have hb := B.bytes
  have hr := B.returns
  have hts := atoms_spec (ws := sm_ws j) B.pre
  have hown : s.vm.findClass (sm_y j).cls = some m.cls := findClass_of_methodNamed B.named
  have hlocks := B.notSynchronized
  subst hsz
  rw [lg_entry_eq]
  have hl := lv_entry (as.map (sm_rv ad)) (n := sm_max j) (by rw [sm_sl_len]; exact Nat.le_of_ble_eq_true hlen)
  refine hw p l e (headSpec (sm_ws j) (sm_room (d + 1))).room s m _ below meth c (va_A (sm_rw G ad h) s.heap.size) s.heap D G ad 0 0 _ ⟨hx, hb, hml, hown, fun w hw => hts w (List.mem_cons_of_mem _ hw), hK, fun q hq => Or.inr hq, ⟨Nat.le_refl _, Nat.le_refl _⟩, ⟨Nat.zero_le _, Nat.zero_le _⟩, ?_, fun q hq => by cases hq⟩ s.heap [] _ hP hD0.self va_S.rf ⟨_, hl, fun i v hg => ?_⟩
  · intro H locs lsA pc v h' hrt hq hP hD hS
    match v, hrt with
    | none, hrt => exact W.vret hx hb (hr.trans hrt.2) (fun t ht hW => ⟨⟨none, h', rfl, hq, by rw [ht]; exact hP, va_K.moved hW.alike hK, hD⟩, hS.F ht⟩) hS.2.2 hrt.1
    | some (.int a), hrt =>
      obtain ⟨h1, ty, h2, h3⟩ := hrt
      exact W.zret (v := a) hx hb (hr.trans h2) h3 (fun t ht hW => ⟨⟨some (.int a), h', rfl, hq, by rw [ht]; exact hP, va_K.moved hW.alike hK, hD⟩, hS.F ht⟩) hS.2.2 h1
    | some (.long a), hrt => exact W.lret (v := a) hx hb (hr.trans hrt.2) (fun t ht hW => ⟨⟨some (.long a), h', rfl, hq, by rw [ht]; exact hP, va_K.moved hW.alike hK, hD⟩, hS.F ht⟩) hS.2.2 hrt.1
  · have h2 := sm_ent_args as ad 0 i v (sm_get_pad (by rw [← hls]; exact hg))
    rwa [Nat.zero_add] at h2
/-- a runner of calls with k frames at least -/
def sm_C (k : Nat) (CT : sm_CT) : Prop := ∃ d, k ≤ d ∧ CT = sm_call d
theorem sm_C.mono {k k' : Nat} {CT : sm_CT} (h : sm_C k CT) (hk : k' ≤ k) : sm_C k' CT := by
  obtain ⟨d, h1, h2⟩ := h
  exact ⟨d, Nat.le_trans hk h1, h2⟩
def sm_Wk (k j : Nat) (Q : sm_Q) (sc : Option (Nat × (Nat → Int32))) : sm_K := fun pc ls st h => ∀ d, k ≤ d → sm_W j d Q sc pc ls st h
theorem sm_body {k j : Nat} {Q : sm_Q} {sc : Option (Nat × (Nat → Int32))} (stop : List Nat) (n : Nat) (hall : (sm_tab j).all (sm_chk j) = true) {pc : Nat} {ls : sm_L} {st : List Value} {h : sm_H}
    (hr : ∀ (CT : sm_CT) (K : sm_K), sm_C k CT → (∀ pc ls st h, sm_Wk k j Q sc pc ls st h → K pc ls st h) → sm_run CT Q sc (sm_tab j) stop K n (sm_from (sm_tab j) pc) ls st h) : sm_Wk k j Q sc pc ls st h :=
  fun d hd => sm_go stop n hall (hr (sm_call d) (sm_W j d Q sc) ⟨d, hd, rfl⟩ (fun _ _ _ _ q => q d hd))
theorem sm_meth {k j : Nat} {as : List Value} {h : sm_H} {Q : sm_Q} {CT : sm_CT} (hC : sm_C (k + 1) CT) (ls : sm_L) (hls : ls = sm_ent as ++ List.replicate (sm_max j - (sm_ent as).length) none) (hlen : Nat.ble (sm_ent as).length (sm_max j) = true) (hpl : plainName (sm_y j).cls = true)
    (hw : sm_Wk k j Q none 0 ls [] h) : CT j as h Q := by
  obtain ⟨d, h1, rfl⟩ := hC
  obtain ⟨d', rfl⟩ : ∃ d', d = d' + 1 := ⟨d - 1, by omega⟩
  exact sm_enter ls hls hlen hpl (hw d' (by omega))
end
section
/-! The heap of the whole run: G p = the ints of place p (an array's elements, an object's fields by number), L p = its longs. -/
def su {α : Type} (f : Nat → α) (k : Nat) (v : α) : Nat → α := fun j => cond (Nat.beq j k) v (f j)
theorem su_eq {α : Type} (f : Nat → α) (k : Nat) (v : α) : su f k v k = v := by simp [su]
theorem su_ne {α : Type} (f : Nat → α) {k j : Nat} (v : α) (h : j ≠ k) : su f k v j = f j := by
  have : Nat.beq j k = false := by
    cases hb : Nat.beq j k with
    | false => rfl
    | true => exact absurd (Nat.eq_of_beq_eq_true hb) h
  simp [su, this]
theorem su_self {α : Type} (f : Nat → α) (k : Nat) : su f k (f k) = f := by
  funext j
  by_cases h : j = k
  · subst h; exact su_eq _ _ _
  · exact su_ne _ _ h
theorem su_su {α : Type} (f : Nat → α) (k : Nat) (v w : α) : su (su f k v) k w = su f k w := by
  funext j
  by_cases h : j = k
  · subst h; rw [su_eq, su_eq]
  · rw [su_ne _ _ h, su_ne _ _ h, su_ne _ _ h]
theorem su_if {α : Type} (f : Nat → α) (k : Nat) (v : α) (j : Nat) : su f k v j = if j = k then v else f j := by
  by_cases h : j = k
  · subst h; rw [su_eq, if_pos rfl]
  · rw [su_ne _ _ h, if_neg h]
theorem upd_su (f : Nat → Int32) (k : Nat) (v : Int32) : upd f k v = su f k v := by
  funext j
  rw [su_if]
  rfl
theorem updL_su (f : Nat → Int64) (k : Nat) (v : Int64) : vp_updL f k v = su f k v := by
  funext j
  rw [su_if]
  rfl
def hf0 (x : Nat → Int32) : List Value := [.ref 1, .ref 3, .ref 10, .ref 17, .ref 20, .int (x 5), .int (x 6), .int (x 7)]
theorem hf0_5 (x : Nat → Int32) (v : Int32) : (hf0 x).set 5 (.int v) = hf0 (su x 5 v) := rfl
theorem hf0_6 (x : Nat → Int32) (v : Int32) : (hf0 x).set 6 (.int v) = hf0 (su x 6 v) := rfl
theorem hf0_7 (x : Nat → Int32) (v : Int32) : (hf0 x).set 7 (.int v) = hf0 (su x 7 v) := rfl
def hf1 (x : Nat → Int32) : List Value := [.ref 2, .int (x 1)]
theorem hf1_1 (x : Nat → Int32) (v : Int32) : (hf1 x).set 1 (.int v) = hf1 (su x 1 v) := rfl
def hf3 (x : Nat → Int32) : List Value := [.int (x 0), .ref 4, .int (x 2), .ref 5, .ref 6, .ref 7, .int (x 6), .ref 8, .ref 9]
theorem hf3_0 (x : Nat → Int32) (v : Int32) : (hf3 x).set 0 (.int v) = hf3 (su x 0 v) := rfl
theorem hf3_2 (x : Nat → Int32) (v : Int32) : (hf3 x).set 2 (.int v) = hf3 (su x 2 v) := rfl
theorem hf3_6 (x : Nat → Int32) (v : Int32) : (hf3 x).set 6 (.int v) = hf3 (su x 6 v) := rfl
def hf10 (x : Nat → Int32) : List Value := [.int (x 0), .ref 11, .int (x 2), .ref 12, .ref 13, .ref 14, .int (x 6), .ref 15, .ref 16]
theorem hf10_0 (x : Nat → Int32) (v : Int32) : (hf10 x).set 0 (.int v) = hf10 (su x 0 v) := rfl
theorem hf10_2 (x : Nat → Int32) (v : Int32) : (hf10 x).set 2 (.int v) = hf10 (su x 2 v) := rfl
theorem hf10_6 (x : Nat → Int32) (v : Int32) : (hf10 x).set 6 (.int v) = hf10 (su x 6 v) := rfl
def hf17 (x : Nat → Int32) : List Value := [.ref 3, .ref 18, .ref 19, .int (x 3), .int (x 4)]
theorem hf17_3 (x : Nat → Int32) (v : Int32) : (hf17 x).set 3 (.int v) = hf17 (su x 3 v) := rfl
theorem hf17_4 (x : Nat → Int32) (v : Int32) : (hf17 x).set 4 (.int v) = hf17 (su x 4 v) := rfl
def hf20 (x : Nat → Int32) : List Value := [.ref 3, .ref 21, .ref 29, .int (x 3), .int (x 4)]
theorem hf20_3 (x : Nat → Int32) (v : Int32) : (hf20 x).set 3 (.int v) = hf20 (su x 3 v) := rfl
theorem hf20_4 (x : Nat → Int32) (v : Int32) : (hf20 x).set 4 (.int v) = hf20 (su x 4 v) := rfl
def hf30 (x : Nat → Int32) (y : Nat → Int64) : List Value := [.int (x 0), .int (x 1), .ref 31, .int (x 3), .ref 32, .ref 33, .ref 34, .int (x 7), .ref 35, .ref 36, .ref 37, .int (x 11), .int (x 12), .ref 38, .ref 39, .ref 40, .ref 41, .ref 42, .ref 43, .ref 44, .int (x 20), .long (y 21), .int (x 22), .int (x 23), .int (x 24), .int (x 25), .ref 45, .ref 46, .ref 47, .ref 48, .ref 49, .long (y 31)]
theorem hf30_0 (x : Nat → Int32) (y : Nat → Int64) (v : Int32) : (hf30 x y).set 0 (.int v) = hf30 (su x 0 v) y := rfl
theorem hf30_1 (x : Nat → Int32) (y : Nat → Int64) (v : Int32) : (hf30 x y).set 1 (.int v) = hf30 (su x 1 v) y := rfl
theorem hf30_3 (x : Nat → Int32) (y : Nat → Int64) (v : Int32) : (hf30 x y).set 3 (.int v) = hf30 (su x 3 v) y := rfl
theorem hf30_7 (x : Nat → Int32) (y : Nat → Int64) (v : Int32) : (hf30 x y).set 7 (.int v) = hf30 (su x 7 v) y := rfl
theorem hf30_11 (x : Nat → Int32) (y : Nat → Int64) (v : Int32) : (hf30 x y).set 11 (.int v) = hf30 (su x 11 v) y := rfl
theorem hf30_12 (x : Nat → Int32) (y : Nat → Int64) (v : Int32) : (hf30 x y).set 12 (.int v) = hf30 (su x 12 v) y := rfl
theorem hf30_20 (x : Nat → Int32) (y : Nat → Int64) (v : Int32) : (hf30 x y).set 20 (.int v) = hf30 (su x 20 v) y := rfl
theorem hf30_22 (x : Nat → Int32) (y : Nat → Int64) (v : Int32) : (hf30 x y).set 22 (.int v) = hf30 (su x 22 v) y := rfl
theorem hf30_23 (x : Nat → Int32) (y : Nat → Int64) (v : Int32) : (hf30 x y).set 23 (.int v) = hf30 (su x 23 v) y := rfl
theorem hf30_24 (x : Nat → Int32) (y : Nat → Int64) (v : Int32) : (hf30 x y).set 24 (.int v) = hf30 (su x 24 v) y := rfl
theorem hf30_25 (x : Nat → Int32) (y : Nat → Int64) (v : Int32) : (hf30 x y).set 25 (.int v) = hf30 (su x 25 v) y := rfl
theorem hf30_21 (x : Nat → Int32) (y : Nat → Int64) (v : Int64) : (hf30 x y).set 21 (.long v) = hf30 x (su y 21 v) := rfl
theorem hf30_31 (x : Nat → Int32) (y : Nat → Int64) (v : Int64) : (hf30 x y).set 31 (.long v) = hf30 x (su y 31 v) := rfl
def hp (G : Nat → Nat → Int32) (L : Nat → Nat → Int64) : sm_H := [
  .inr (4, hf0 (G 0)),
  .inr (1, hf1 (G 1)),
  .inl (0, 8, .inl (G 2)),
  .inr (0, hf3 (G 3)),
  .inl (0, 6, .inl (G 4)),
  .inl (0, 4, .inl (G 5)),
  .inl (0, 4, .inl (G 6)),
  .inl (0, 4, .inl (G 7)),
  .inl (0, 4, .inl (G 8)),
  .inl (0, 24, .inl (G 9)),
  .inr (0, hf10 (G 10)),
  .inl (0, 6, .inl (G 11)),
  .inl (0, 4, .inl (G 12)),
  .inl (0, 4, .inl (G 13)),
  .inl (0, 4, .inl (G 14)),
  .inl (0, 4, .inl (G 15)),
  .inl (0, 24, .inl (G 16)),
  .inr (2, hf17 (G 17)),
  .inl (0, 96, .inl (G 18)),
  .inl (0, 24, .inl (G 19)),
  .inr (3, hf20 (G 20)),
  .inl (3, 7, .inr (.inr (.inr (.inr (fun i => cond (Nat.blt i 7) (some (22 + i)) none))))),
  .inl (0, 64, .inl (G 22)),
  .inl (0, 64, .inl (G 23)),
  .inl (0, 64, .inl (G 24)),
  .inl (0, 64, .inl (G 25)),
  .inl (0, 64, .inl (G 26)),
  .inl (0, 64, .inl (G 27)),
  .inl (0, 64, .inl (G 28)),
  .inl (0, 7, .inl (G 29)),
  .inr (5, hf30 (G 30) (L 30)),
  .inl (0, 6, .inl (G 31)),
  .inl (0, 4, .inl (G 32)),
  .inl (0, 4, .inl (G 33)),
  .inl (0, 4, .inl (G 34)),
  .inl (0, 10, .inl (G 35)),
  .inl (0, 10, .inl (G 36)),
  .inl (0, 10, .inl (G 37)),
  .inl (2, 8, .inl (G 38)),
  .inl (0, 6, .inl (G 39)),
  .inl (0, 24, .inl (G 40)),
  .inl (0, 96, .inl (G 41)),
  .inl (1, 8192, .inr (.inl (L 42))),
  .inl (0, 8192, .inl (G 43)),
  .inl (0, 8192, .inl (G 44)),
  .inl (0, 6, .inl (G 45)),
  .inl (0, 4, .inl (G 46)),
  .inl (0, 10, .inl (G 47)),
  .inl (0, 10, .inl (G 48)),
  .inl (0, 10, .inl (G 49))]
theorem hp_0 (G : Nat → Nat → Int32) (L : Nat → Nat → Int64) (x : Nat → Int32) : (hp G L).set 0 (.inr (4, hf0 x)) = hp (su G 0 x) L := rfl
theorem hp_1 (G : Nat → Nat → Int32) (L : Nat → Nat → Int64) (x : Nat → Int32) : (hp G L).set 1 (.inr (1, hf1 x)) = hp (su G 1 x) L := rfl
theorem hp_2 (G : Nat → Nat → Int32) (L : Nat → Nat → Int64) (x : Nat → Int32) : (hp G L).set 2 (.inl (0, 8, .inl x)) = hp (su G 2 x) L := rfl
theorem hp_3 (G : Nat → Nat → Int32) (L : Nat → Nat → Int64) (x : Nat → Int32) : (hp G L).set 3 (.inr (0, hf3 x)) = hp (su G 3 x) L := rfl
theorem hp_4 (G : Nat → Nat → Int32) (L : Nat → Nat → Int64) (x : Nat → Int32) : (hp G L).set 4 (.inl (0, 6, .inl x)) = hp (su G 4 x) L := rfl
theorem hp_5 (G : Nat → Nat → Int32) (L : Nat → Nat → Int64) (x : Nat → Int32) : (hp G L).set 5 (.inl (0, 4, .inl x)) = hp (su G 5 x) L := rfl
theorem hp_6 (G : Nat → Nat → Int32) (L : Nat → Nat → Int64) (x : Nat → Int32) : (hp G L).set 6 (.inl (0, 4, .inl x)) = hp (su G 6 x) L := rfl
theorem hp_7 (G : Nat → Nat → Int32) (L : Nat → Nat → Int64) (x : Nat → Int32) : (hp G L).set 7 (.inl (0, 4, .inl x)) = hp (su G 7 x) L := rfl
theorem hp_8 (G : Nat → Nat → Int32) (L : Nat → Nat → Int64) (x : Nat → Int32) : (hp G L).set 8 (.inl (0, 4, .inl x)) = hp (su G 8 x) L := rfl
theorem hp_9 (G : Nat → Nat → Int32) (L : Nat → Nat → Int64) (x : Nat → Int32) : (hp G L).set 9 (.inl (0, 24, .inl x)) = hp (su G 9 x) L := rfl
theorem hp_10 (G : Nat → Nat → Int32) (L : Nat → Nat → Int64) (x : Nat → Int32) : (hp G L).set 10 (.inr (0, hf10 x)) = hp (su G 10 x) L := rfl
theorem hp_11 (G : Nat → Nat → Int32) (L : Nat → Nat → Int64) (x : Nat → Int32) : (hp G L).set 11 (.inl (0, 6, .inl x)) = hp (su G 11 x) L := rfl
theorem hp_12 (G : Nat → Nat → Int32) (L : Nat → Nat → Int64) (x : Nat → Int32) : (hp G L).set 12 (.inl (0, 4, .inl x)) = hp (su G 12 x) L := rfl
theorem hp_13 (G : Nat → Nat → Int32) (L : Nat → Nat → Int64) (x : Nat → Int32) : (hp G L).set 13 (.inl (0, 4, .inl x)) = hp (su G 13 x) L := rfl
theorem hp_14 (G : Nat → Nat → Int32) (L : Nat → Nat → Int64) (x : Nat → Int32) : (hp G L).set 14 (.inl (0, 4, .inl x)) = hp (su G 14 x) L := rfl
theorem hp_15 (G : Nat → Nat → Int32) (L : Nat → Nat → Int64) (x : Nat → Int32) : (hp G L).set 15 (.inl (0, 4, .inl x)) = hp (su G 15 x) L := rfl
theorem hp_16 (G : Nat → Nat → Int32) (L : Nat → Nat → Int64) (x : Nat → Int32) : (hp G L).set 16 (.inl (0, 24, .inl x)) = hp (su G 16 x) L := rfl
theorem hp_17 (G : Nat → Nat → Int32) (L : Nat → Nat → Int64) (x : Nat → Int32) : (hp G L).set 17 (.inr (2, hf17 x)) = hp (su G 17 x) L := rfl
theorem hp_18 (G : Nat → Nat → Int32) (L : Nat → Nat → Int64) (x : Nat → Int32) : (hp G L).set 18 (.inl (0, 96, .inl x)) = hp (su G 18 x) L := rfl
theorem hp_19 (G : Nat → Nat → Int32) (L : Nat → Nat → Int64) (x : Nat → Int32) : (hp G L).set 19 (.inl (0, 24, .inl x)) = hp (su G 19 x) L := rfl
theorem hp_20 (G : Nat → Nat → Int32) (L : Nat → Nat → Int64) (x : Nat → Int32) : (hp G L).set 20 (.inr (3, hf20 x)) = hp (su G 20 x) L := rfl
theorem hp_22 (G : Nat → Nat → Int32) (L : Nat → Nat → Int64) (x : Nat → Int32) : (hp G L).set 22 (.inl (0, 64, .inl x)) = hp (su G 22 x) L := rfl
theorem hp_23 (G : Nat → Nat → Int32) (L : Nat → Nat → Int64) (x : Nat → Int32) : (hp G L).set 23 (.inl (0, 64, .inl x)) = hp (su G 23 x) L := rfl
theorem hp_24 (G : Nat → Nat → Int32) (L : Nat → Nat → Int64) (x : Nat → Int32) : (hp G L).set 24 (.inl (0, 64, .inl x)) = hp (su G 24 x) L := rfl
theorem hp_25 (G : Nat → Nat → Int32) (L : Nat → Nat → Int64) (x : Nat → Int32) : (hp G L).set 25 (.inl (0, 64, .inl x)) = hp (su G 25 x) L := rfl
theorem hp_26 (G : Nat → Nat → Int32) (L : Nat → Nat → Int64) (x : Nat → Int32) : (hp G L).set 26 (.inl (0, 64, .inl x)) = hp (su G 26 x) L := rfl
theorem hp_27 (G : Nat → Nat → Int32) (L : Nat → Nat → Int64) (x : Nat → Int32) : (hp G L).set 27 (.inl (0, 64, .inl x)) = hp (su G 27 x) L := rfl
theorem hp_28 (G : Nat → Nat → Int32) (L : Nat → Nat → Int64) (x : Nat → Int32) : (hp G L).set 28 (.inl (0, 64, .inl x)) = hp (su G 28 x) L := rfl
theorem hp_29 (G : Nat → Nat → Int32) (L : Nat → Nat → Int64) (x : Nat → Int32) : (hp G L).set 29 (.inl (0, 7, .inl x)) = hp (su G 29 x) L := rfl
theorem hp_30 (G : Nat → Nat → Int32) (L : Nat → Nat → Int64) (x : Nat → Int32) (y : Nat → Int64) : (hp G L).set 30 (.inr (5, hf30 x y)) = hp (su G 30 x) (su L 30 y) := rfl
theorem hp_31 (G : Nat → Nat → Int32) (L : Nat → Nat → Int64) (x : Nat → Int32) : (hp G L).set 31 (.inl (0, 6, .inl x)) = hp (su G 31 x) L := rfl
theorem hp_32 (G : Nat → Nat → Int32) (L : Nat → Nat → Int64) (x : Nat → Int32) : (hp G L).set 32 (.inl (0, 4, .inl x)) = hp (su G 32 x) L := rfl
theorem hp_33 (G : Nat → Nat → Int32) (L : Nat → Nat → Int64) (x : Nat → Int32) : (hp G L).set 33 (.inl (0, 4, .inl x)) = hp (su G 33 x) L := rfl
theorem hp_34 (G : Nat → Nat → Int32) (L : Nat → Nat → Int64) (x : Nat → Int32) : (hp G L).set 34 (.inl (0, 4, .inl x)) = hp (su G 34 x) L := rfl
theorem hp_35 (G : Nat → Nat → Int32) (L : Nat → Nat → Int64) (x : Nat → Int32) : (hp G L).set 35 (.inl (0, 10, .inl x)) = hp (su G 35 x) L := rfl
theorem hp_36 (G : Nat → Nat → Int32) (L : Nat → Nat → Int64) (x : Nat → Int32) : (hp G L).set 36 (.inl (0, 10, .inl x)) = hp (su G 36 x) L := rfl
theorem hp_37 (G : Nat → Nat → Int32) (L : Nat → Nat → Int64) (x : Nat → Int32) : (hp G L).set 37 (.inl (0, 10, .inl x)) = hp (su G 37 x) L := rfl
theorem hp_38 (G : Nat → Nat → Int32) (L : Nat → Nat → Int64) (x : Nat → Int32) : (hp G L).set 38 (.inl (2, 8, .inl x)) = hp (su G 38 x) L := rfl
theorem hp_39 (G : Nat → Nat → Int32) (L : Nat → Nat → Int64) (x : Nat → Int32) : (hp G L).set 39 (.inl (0, 6, .inl x)) = hp (su G 39 x) L := rfl
theorem hp_40 (G : Nat → Nat → Int32) (L : Nat → Nat → Int64) (x : Nat → Int32) : (hp G L).set 40 (.inl (0, 24, .inl x)) = hp (su G 40 x) L := rfl
theorem hp_41 (G : Nat → Nat → Int32) (L : Nat → Nat → Int64) (x : Nat → Int32) : (hp G L).set 41 (.inl (0, 96, .inl x)) = hp (su G 41 x) L := rfl
theorem hp_42 (G : Nat → Nat → Int32) (L : Nat → Nat → Int64) (y : Nat → Int64) : (hp G L).set 42 (.inl (1, 8192, .inr (.inl y))) = hp G (su L 42 y) := rfl
theorem hp_43 (G : Nat → Nat → Int32) (L : Nat → Nat → Int64) (x : Nat → Int32) : (hp G L).set 43 (.inl (0, 8192, .inl x)) = hp (su G 43 x) L := rfl
theorem hp_44 (G : Nat → Nat → Int32) (L : Nat → Nat → Int64) (x : Nat → Int32) : (hp G L).set 44 (.inl (0, 8192, .inl x)) = hp (su G 44 x) L := rfl
theorem hp_45 (G : Nat → Nat → Int32) (L : Nat → Nat → Int64) (x : Nat → Int32) : (hp G L).set 45 (.inl (0, 6, .inl x)) = hp (su G 45 x) L := rfl
theorem hp_46 (G : Nat → Nat → Int32) (L : Nat → Nat → Int64) (x : Nat → Int32) : (hp G L).set 46 (.inl (0, 4, .inl x)) = hp (su G 46 x) L := rfl
theorem hp_47 (G : Nat → Nat → Int32) (L : Nat → Nat → Int64) (x : Nat → Int32) : (hp G L).set 47 (.inl (0, 10, .inl x)) = hp (su G 47 x) L := rfl
theorem hp_48 (G : Nat → Nat → Int32) (L : Nat → Nat → Int64) (x : Nat → Int32) : (hp G L).set 48 (.inl (0, 10, .inl x)) = hp (su G 48 x) L := rfl
theorem hp_49 (G : Nat → Nat → Int32) (L : Nat → Nat → Int64) (x : Nat → Int32) : (hp G L).set 49 (.inl (0, 10, .inl x)) = hp (su G 49 x) L := rfl
end
section
/-! Numbers: ints as natural numbers. -/
theorem zn_and (a b : Nat) : nI a &&& nI b = nI (a &&& b) := by
  apply Int32.toBitVec_inj.1
  show BitVec.ofNat 32 a &&& BitVec.ofNat 32 b = BitVec.ofNat 32 (a &&& b)
  apply BitVec.eq_of_getLsbD_eq
  intro i hi
  simp [hi]
theorem zn_or (a b : Nat) : nI a ||| nI b = nI (a ||| b) := by
  apply Int32.toBitVec_inj.1
  show BitVec.ofNat 32 a ||| BitVec.ofNat 32 b = BitVec.ofNat 32 (a ||| b)
  apply BitVec.eq_of_getLsbD_eq
  intro i hi
  simp [hi]
theorem zn_lt (a b : Int32) : a < b ↔ a.toInt < b.toInt := Int32.lt_iff_toInt_lt
theorem zn_le (a b : Int32) : a ≤ b ↔ a.toInt ≤ b.toInt := Int32.le_iff_toInt_le
theorem zn_eq (a b : Int32) : a = b ↔ a.toInt = b.toInt := Int32.toInt_inj.symm
theorem zn_m1 : (-1 : Int32).toInt = -1 := rfl
theorem zn_shl {a s : Nat} (hs : s < 32) : sm_shl (nI a) (nI s) = nI (a * 2 ^ s) := by
  unfold sm_shl
  rw [show (31 : Int32) = nI 31 from rfl, zn_and, show s &&& 31 = s from by rw [show (31 : Nat) = 2 ^ 5 - 1 from rfl, Nat.and_two_pow_sub_one_eq_mod]; exact Nat.mod_eq_of_lt hs]
  apply Int32.toBitVec_inj.mp
  apply BitVec.eq_of_toNat_eq
  have h1 : ((nI s).toBitVec.smod 32).toNat = s := by
    have : ∀ s, s < 32 → ((nI s).toBitVec.smod 32).toNat = s := by decide +kernel
    exact this s hs
  rw [pk_shl _ _ s h1]
  show (a % 2 ^ 32) * 2 ^ s % 2 ^ 32 = (a * 2 ^ s) % 2 ^ 32
  rw [Nat.mod_mul_mod]
theorem zn_shr {a s : Nat} (ha : a < 2 ^ 31) (hs : s < 32) : sm_shr (nI a) (nI s) = nI (a / 2 ^ s) := by
  unfold sm_shr
  rw [show (31 : Int32) = nI 31 from rfl, zn_and, show s &&& 31 = s from by rw [show (31 : Nat) = 2 ^ 5 - 1 from rfl, Nat.and_two_pow_sub_one_eq_mod]; exact Nat.mod_eq_of_lt hs]
  have h1 : ((nI s).toBitVec.smod 32).toNat = s := by
    have : ∀ s, s < 32 → ((nI s).toBitVec.smod 32).toNat = s := by decide +kernel
    exact this s hs
  exact pk_shrN ha _ s h1
theorem zn_ir {a d : Nat} (ha : a < 2 ^ 31) (h0 : 0 < d) (hd : d < 2 ^ 31) : sm_ir (nI a) (nI d) = nI (a % d) := pk_rem ha h0 hd
theorem zn_ne {a b : Nat} (h : a ≠ b) (ha : a < 2 ^ 31) (hb : b < 2 ^ 31) : nI a ≠ nI b := fun e => h ((nI_eq ha hb).mp e)
theorem zn_nem {a : Nat} (ha : a < 2 ^ 31) : ¬ nI a = -1 := by
  rw [zn_eq, nI_toInt ha, zn_m1]
  omega
theorem zn_in {i n : Nat} (h : i < n) (hn : n < 2 ^ 31) : sm_in (nI i) n := sm_in_of (vp_in_nI h hn)
theorem sm_un {P : Prop} (h : Nonempty (PLift P)) : P := by
  obtain ⟨⟨h⟩⟩ := h
  exact h
/-- within 0 .. n - 1 -/
def inb (x : Int32) (n : Nat) : Bool := decide (0 ≤ x.toInt) && decide (x.toInt < n)
theorem inb_t {x : Int32} {n : Nat} (h0 : ¬ x < nI 0) (h1 : x < nI n) (hn : n < 2 ^ 31) : ∃ j, j < n ∧ x = nI j := by
  rw [zn_lt, nI_toInt hn] at h1
  rw [zn_lt] at h0
  have h0 : ¬ x.toInt < 0 := h0
  refine ⟨x.toInt.toNat, by omega, ?_⟩
  rw [zn_eq, nI_toInt (by omega)]
  omega
theorem inb_lo {x : Int32} {n : Nat} (h : x < nI 0) : inb x n = false := by
  rw [zn_lt] at h
  have h : x.toInt < 0 := h
  simp [inb]
  omega
theorem inb_hi {x : Int32} {n : Nat} (h : nI n ≤ x) (hn : n < 2 ^ 31) : inb x n = false := by
  rw [zn_le, nI_toInt hn] at h
  simp [inb]
  omega
theorem inb_n {j n : Nat} (h : j < n) (hn : n < 2 ^ 31) : inb (nI j) n = true := by
  simp [inb, nI_toInt (show j < 2 ^ 31 by omega)]
  omega
def sm_b (b : Bool) : Int32 := cond b (nI 1) (nI 0)
theorem zq {Q : sm_Q} {h : sm_H} {a b : Int32} (e : a = b) (hq : Q (some (.int b)) h) : Q (some (.int a)) h := e ▸ hq
theorem z01 : nI 0 = nI 0 ∨ nI 0 = nI 1 := Or.inl rfl
theorem z11 : nI 1 = nI 0 ∨ nI 1 = nI 1 := Or.inr rfl
theorem zb01 (b : Bool) : sm_b b = nI 0 ∨ sm_b b = nI 1 := by cases b <;> simp [sm_b]
theorem zn_a3 (a : Nat) : nI a &&& nI 3 = nI (a % 4) := by
  rw [zn_and, show (3 : Nat) = 2 ^ 2 - 1 from rfl, Nat.and_two_pow_sub_one_eq_mod]
theorem wi_t {x y : Int32} {n : Nat} (hn : n < 2 ^ 30) (hy : y.toInt = (n : Int) - 1) (h0 : nI 0 ≤ x) (h1 : x ≤ y) : ∃ j, j < n ∧ x = nI j := by
  rw [zn_le] at h0 h1
  have h0 : 0 ≤ x.toInt := h0
  refine ⟨x.toInt.toNat, by omega, ?_⟩
  rw [zn_eq, nI_toInt (by omega)]
  omega
theorem wi_f {x y : Int32} {n : Nat} (hy : y.toInt = (n : Int) - 1) (h : ¬ (nI 0 ≤ x ∧ x ≤ y)) : inb x n = false := by
  rw [zn_le, zn_le] at h
  have h : ¬ (0 ≤ x.toInt ∧ x.toInt ≤ y.toInt) := h
  simp [inb]
  omega
/-- a quarter's step at most towards another -/
def nud (a b : Nat) : Nat := if a = b then a else if (b + 4 - a) % 4 = 3 then (a + 3) % 4 else (a + 1) % 4
/-- where a vane of kind k, twist t, that points at a, points behind a wind w -/
def trn (k t a w : Nat) : Nat := match k with
  | 1 => nud a w
  | 2 => if w = t then a else w
  | 3 => (w + t) % 4
  | 4 => nud a ((w + t) % 4)
  | _ => w
theorem nud_lt {a b : Nat} (ha : a < 4) : nud a b < 4 := by
  unfold nud
  split
  · exact ha
  · split <;> omega
theorem trn_lt {k t a w : Nat} (ha : a < 4) (hw : w < 4) : trn k t a w < 4 := by
  unfold trn
  split
  · exact nud_lt ha
  · split <;> assumption
  · omega
  · exact nud_lt ha
  · exact hw
theorem nud_i : ∀ a, a < 4 → ∀ b, b < 4 → (nI b - nI a &&& nI 3 = nI 0 → nI a = nI (nud a b)) ∧ (¬ nI b - nI a &&& nI 3 = nI 0 → nI b - nI a &&& nI 3 = nI 3 → nI a + nI 3 &&& nI 3 = nI (nud a b)) ∧ (¬ nI b - nI a &&& nI 3 = nI 0 → ¬ nI b - nI a &&& nI 3 = nI 3 → nI a + nI 1 &&& nI 3 = nI (nud a b)) := by decide +kernel
theorem nud_m : ∀ a, a < 4 → ∀ b, b < 4 → (sm_ir (nI b - nI a + nI 4) (nI 4) = nI 0 → sm_ir (nI a + nI 0) (nI 4) = nI (nud a b)) ∧ (¬ sm_ir (nI b - nI a + nI 4) (nI 4) = nI 0 → sm_ir (nI b - nI a + nI 4) (nI 4) = nI 3 → sm_ir (nI a + nI 3) (nI 4) = nI (nud a b)) ∧ (¬ sm_ir (nI b - nI a + nI 4) (nI 4) = nI 0 → ¬ sm_ir (nI b - nI a + nI 4) (nI 4) = nI 3 → sm_ir (nI a + nI 1) (nI 4) = nI (nud a b)) := by decide +kernel
end
section
/-! Small static methods, of both classes. -/
theorem nI_i {a b : Nat} (e : a = b) : nI a = nI b := congrArg nI e
section SMALL
variable {CT : sm_CT} {h : sm_H} {Q : sm_Q}
set_option maxRecDepth 100000 in
set_option maxHeartbeats 4000000 in
theorem s_isQuarter (hC : sm_C 1 CT) {x : Int32} (h1 : ∀ j, j < 4 → x = nI j → Q (some (.int (nI 1))) h) (h0 : inb x 4 = false → Q (some (.int (nI 0))) h) : CT 73 [.int x] h Q := by
  refine sm_meth hC [some (.int x)] rfl rfl rfl ?_
  refine sm_body [] 40 sm_k73 (fun CT K hC hK => ?_)
  repeat' first
    | (with_reducible refine And.intro ?_ ?_)
    | ((with_reducible intro h9); first | exact absurd h9 (by decide) | skip)
    | (with_reducible exact zn_in (by omega) (by decide))
    | (with_reducible exact z01) | (with_reducible exact z11) | (with_reducible exact zb01 _)
    | (with_reducible exact zn_inb (by omega) (by decide))
    | (with_reducible exact zn_ina (by omega) (by decide))
    | (with_reducible exact zn_inc (by omega) (by decide))
    | ((conv => whnf); first | (with_reducible refine And.intro ?_ ?_) | ((with_reducible intro h9); first | exact absurd h9 (by decide) | skip) | (with_reducible refine hK _ _ _ _ (sm_un ?_)) | (with_reducible exact z01) | (with_reducible exact z11))
  · exact h0 (inb_lo ‹_›)
  · exact h0 (inb_hi ‹_› (by decide))
  · obtain ⟨j, hj, e⟩ := inb_t ‹¬ x < nI 0› (Int32.not_le.mp ‹¬ nI 4 ≤ x›) (by decide)
    exact h1 j hj e
set_option maxRecDepth 100000 in
set_option maxHeartbeats 4000000 in
theorem s_isTwist (hC : sm_C 1 CT) {x : Int32} (h1 : ∀ j, j < 4 → x = nI j → Q (some (.int (nI 1))) h) (h0 : inb x 4 = false → Q (some (.int (nI 0))) h) : CT 74 [.int x] h Q := by
  refine sm_meth hC [some (.int x)] rfl rfl rfl ?_
  refine sm_body [] 40 sm_k74 (fun CT K hC hK => ?_)
  repeat' first
    | (with_reducible refine And.intro ?_ ?_)
    | ((with_reducible intro h9); first | exact absurd h9 (by decide) | skip)
    | (with_reducible exact zn_in (by omega) (by decide))
    | (with_reducible exact z01) | (with_reducible exact z11) | (with_reducible exact zb01 _)
    | (with_reducible exact zn_inb (by omega) (by decide))
    | (with_reducible exact zn_ina (by omega) (by decide))
    | (with_reducible exact zn_inc (by omega) (by decide))
    | ((conv => whnf); first | (with_reducible refine And.intro ?_ ?_) | ((with_reducible intro h9); first | exact absurd h9 (by decide) | skip) | (with_reducible refine hK _ _ _ _ (sm_un ?_)) | (with_reducible exact z01) | (with_reducible exact z11))
  · exact h0 (inb_lo ‹_›)
  · exact h0 (inb_hi ‹_› (by decide))
  · obtain ⟨j, hj, e⟩ := inb_t ‹¬ x < nI 0› (Int32.not_le.mp ‹¬ nI 4 ≤ x›) (by decide)
    exact h1 j hj e
set_option maxRecDepth 100000 in
set_option maxHeartbeats 4000000 in
theorem s_isKind (hC : sm_C 1 CT) {x : Int32} (h1 : ∀ j, j < 5 → x = nI j → Q (some (.int (nI 1))) h) (h0 : inb x 5 = false → Q (some (.int (nI 0))) h) : CT 75 [.int x] h Q := by
  refine sm_meth hC [some (.int x)] rfl rfl rfl ?_
  refine sm_body [] 40 sm_k75 (fun CT K hC hK => ?_)
  repeat' first
    | (with_reducible refine And.intro ?_ ?_)
    | ((with_reducible intro h9); first | exact absurd h9 (by decide) | skip)
    | (with_reducible exact zn_in (by omega) (by decide))
    | (with_reducible exact z01) | (with_reducible exact z11) | (with_reducible exact zb01 _)
    | (with_reducible exact zn_inb (by omega) (by decide))
    | (with_reducible exact zn_ina (by omega) (by decide))
    | (with_reducible exact zn_inc (by omega) (by decide))
    | ((conv => whnf); first | (with_reducible refine And.intro ?_ ?_) | ((with_reducible intro h9); first | exact absurd h9 (by decide) | skip) | (with_reducible refine hK _ _ _ _ (sm_un ?_)) | (with_reducible exact z01) | (with_reducible exact z11))
  · exact h0 (inb_lo ‹_›)
  · exact h0 (inb_hi ‹_› (by decide))
  · obtain ⟨j, hj, e⟩ := inb_t ‹¬ x < nI 0› (Int32.not_le.mp ‹¬ nI 5 ≤ x›) (by decide)
    exact h1 j hj e
def suchB (own kind : Nat) : Bool := kind == 0 || kind == own || (own == 4 && kind == 3)
theorem such_i : ∀ a, a < 5 → ∀ b, b < 5 → (nI b = nI 0 ∨ nI b = nI a ∨ (nI a = nI 4 ∧ nI b = nI 3) → suchB a b = true) ∧ (¬ nI b = nI 0 ∧ ¬ nI b = nI a ∧ ¬ (nI a = nI 4 ∧ nI b = nI 3) → suchB a b = false) := by decide +kernel
set_option maxRecDepth 100000 in
set_option maxHeartbeats 4000000 in
theorem s_isSuch (hC : sm_C 1 CT) {a b : Nat} (ha : a < 5) (hb : b < 5) (hQ : Q (some (.int (sm_b (suchB a b)))) h) : CT 76 [.int (nI a), .int (nI b)] h Q := by
  obtain ⟨e1, e2⟩ := such_i a ha b hb
  refine sm_meth hC [some (.int (nI a)), some (.int (nI b))] rfl rfl rfl ?_
  refine sm_body [] 40 sm_k76 (fun CT K hC hK => ?_)
  repeat' first
    | (with_reducible refine And.intro ?_ ?_)
    | ((with_reducible intro h9); first | exact absurd h9 (by decide) | skip)
    | (with_reducible exact zn_in (by omega) (by decide))
    | (with_reducible exact z01) | (with_reducible exact z11) | (with_reducible exact zb01 _)
    | (with_reducible exact zn_inb (by omega) (by decide))
    | (with_reducible exact zn_ina (by omega) (by decide))
    | (with_reducible exact zn_inc (by omega) (by decide))
    | ((conv => whnf); first | (with_reducible refine And.intro ?_ ?_) | ((with_reducible intro h9); first | exact absurd h9 (by decide) | skip) | (with_reducible refine hK _ _ _ _ (sm_un ?_)) | (with_reducible exact z01) | (with_reducible exact z11))
  all_goals first
    | (rw [e1 (Or.inl ‹_›)] at hQ; exact hQ)
    | (rw [e1 (Or.inr (Or.inl ‹_›))] at hQ; exact hQ)
    | (rw [e1 (Or.inr (Or.inr ⟨‹_›, ‹_›⟩))] at hQ; exact hQ)
    | (rw [e2 ⟨‹_›, ‹_›, fun q => absurd q.1 ‹_›⟩] at hQ; exact hQ)
    | (rw [e2 ⟨‹_›, ‹_›, fun q => absurd q.2 ‹_›⟩] at hQ; exact hQ)
set_option maxRecDepth 100000 in
set_option maxHeartbeats 4000000 in
theorem s_nudged (hC : sm_C 1 CT) {a b : Nat} (ha : a < 4) (hb : b < 4) (hQ : Q (some (.int (nI (nud a b)))) h) : CT 12 [.int (nI a), .int (nI b)] h Q := by
  obtain ⟨e1, e2, e3⟩ := nud_i a ha b hb
  refine sm_meth hC [some (.int (nI a)), some (.int (nI b)), none] rfl rfl rfl ?_
  refine sm_body [] 40 sm_k12 (fun CT K hC hK => ?_)
  repeat' first
    | (with_reducible refine And.intro ?_ ?_)
    | ((with_reducible intro h9); first | exact absurd h9 (by decide) | skip)
    | (with_reducible exact zn_in (by omega) (by decide))
    | (with_reducible exact z01) | (with_reducible exact z11) | (with_reducible exact zb01 _)
    | (with_reducible exact zn_inb (by omega) (by decide))
    | (with_reducible exact zn_ina (by omega) (by decide))
    | (with_reducible exact zn_inc (by omega) (by decide))
    | ((conv => whnf); first | (with_reducible refine And.intro ?_ ?_) | ((with_reducible intro h9); first | exact absurd h9 (by decide) | skip) | (with_reducible refine hK _ _ _ _ (sm_un ?_)))
  all_goals first
    | exact zq (e1 ‹_›) hQ
    | exact zq (e2 ‹_› ‹_›) hQ
    | exact zq (e3 ‹_› ‹_›) hQ
set_option maxRecDepth 100000 in
set_option maxHeartbeats 4000000 in
theorem s_rusted (hC : sm_C 1 CT) {a b : Nat} (ha : a < 4) (hb : b < 4) (hQ : Q (some (.int (nI (nud a b)))) h) : CT 91 [.int (nI a), .int (nI b)] h Q := by
  obtain ⟨e1, e2, e3⟩ := nud_m a ha b hb
  refine sm_meth hC [some (.int (nI a)), some (.int (nI b)), none, none] rfl rfl rfl ?_
  refine sm_body [] 60 sm_k91 (fun CT K hC hK => ?_)
  repeat' first
    | (with_reducible refine And.intro ?_ ?_)
    | ((with_reducible intro h9); first | exact absurd h9 (by decide) | skip)
    | (with_reducible exact zn_in (by omega) (by decide))
    | (with_reducible exact z01) | (with_reducible exact z11) | (with_reducible exact zb01 _)
    | (with_reducible exact zn_inb (by omega) (by decide))
    | (with_reducible exact zn_ina (by omega) (by decide))
    | (with_reducible exact zn_inc (by omega) (by decide))
    | ((conv => whnf); first | (with_reducible refine And.intro ?_ ?_) | ((with_reducible intro h9); first | exact absurd h9 (by decide) | skip) | (with_reducible refine hK _ _ _ _ (sm_un ?_)))
  all_goals first
    | exact zq (e1 ‹_›) hQ
    | exact zq (e2 ‹_› ‹_›) hQ
    | exact zq (e3 ‹_› ‹_›) hQ
set_option maxRecDepth 100000 in
set_option maxHeartbeats 4000000 in
theorem s_turned (hC : sm_C 2 CT) {k t a w : Nat} (hk : k ≤ 4) (ht : t < 4) (ha : a < 4) (hw : w < 4) (hQ : Q (some (.int (nI (trn k t a w)))) h) : CT 11 [.int (nI k), .int (nI t), .int (nI a), .int (nI w)] h Q := by
  have hk : k = 0 ∨ k = 1 ∨ k = 2 ∨ k = 3 ∨ k = 4 := by omega
  have hwt : (w + t) % 4 < 4 := by omega
  refine sm_meth hC [some (.int (nI k)), some (.int (nI t)), some (.int (nI a)), some (.int (nI w))] rfl rfl rfl ?_
  refine sm_body [] 60 sm_k11 (fun CT K hC hK => ?_)
  rcases hk with rfl | rfl | rfl | rfl | rfl
  all_goals
    repeat' first
      | (with_reducible refine And.intro ?_ ?_)
      | ((with_reducible intro h9); first | exact absurd h9 (by decide) | skip)
      | (with_reducible exact zn_in (by omega) (by decide))
      | (with_reducible exact z01) | (with_reducible exact z11) | (with_reducible exact zb01 _)
      | (with_reducible exact zn_inb (by omega) (by decide))
      | (with_reducible exact zn_ina (by omega) (by decide))
      | (with_reducible exact zn_inc (by omega) (by decide))
      | ((conv => whnf); first | (with_reducible refine And.intro ?_ ?_) | ((with_reducible intro h9); first | exact absurd h9 (by decide) | skip) | (with_reducible refine hK _ _ _ _ (sm_un ?_)) | (with_reducible refine s_nudged (hC.mono (by decide)) ha hw ?_) | (simp only [nI_add, zn_a3]; refine s_nudged (hC.mono (by decide)) ha hwt ?_))
  · exact hQ
  · exact hQ
  · refine zq ?_ hQ
    exact nI_i (if_neg fun e => ‹¬ nI w = nI t› (nI_i e)).symm
  · refine zq ?_ hQ
    exact nI_i (if_pos ((nI_eq (by omega) (by omega)).mp ‹nI w = nI t›)).symm
  · refine zq (?_ : nI w + nI t &&& nI 3 = nI ((w + t) % 4)) hQ
    rw [nI_add, zn_a3]
  · exact hQ
set_option maxRecDepth 100000 in
set_option maxHeartbeats 4000000 in
theorem s_turnedM (hC : sm_C 2 CT) {k t a w : Nat} (hk : k ≤ 4) (ht : t < 4) (ha : a < 4) (hw : w < 4) (hQ : Q (some (.int (nI (trn k t a w)))) h) : CT 92 [.int (nI k), .int (nI t), .int (nI a), .int (nI w)] h Q := by
  have hk : k = 0 ∨ k = 1 ∨ k = 2 ∨ k = 3 ∨ k = 4 := by omega
  have hwt : (w + t) % 4 < 4 := by omega
  have er : sm_ir (nI w + nI t) (nI 4) = nI ((w + t) % 4) := by rw [nI_add, zn_ir (by omega) (by omega) (by omega)]
  refine sm_meth hC [some (.int (nI k)), some (.int (nI t)), some (.int (nI a)), some (.int (nI w))] rfl rfl rfl ?_
  refine sm_body [] 60 sm_k92 (fun CT K hC hK => ?_)
  rcases hk with rfl | rfl | rfl | rfl | rfl
  all_goals
    repeat' first
      | (with_reducible refine And.intro ?_ ?_)
      | ((with_reducible intro h9); first | exact absurd h9 (by decide) | skip)
      | (with_reducible exact zn_in (by omega) (by decide))
      | (with_reducible exact z01) | (with_reducible exact z11) | (with_reducible exact zb01 _)
      | (with_reducible exact zn_inb (by omega) (by decide))
      | (with_reducible exact zn_ina (by omega) (by decide))
      | (with_reducible exact zn_inc (by omega) (by decide))
      | ((conv => whnf); first | (with_reducible refine And.intro ?_ ?_) | ((with_reducible intro h9); first | exact absurd h9 (by decide) | skip) | (with_reducible refine hK _ _ _ _ (sm_un ?_)) | (with_reducible refine s_rusted (hC.mono (by decide)) ha hw ?_) | (with_reducible exact zn_ne (by decide) (by decide) (by decide)) | (rw [er]; refine s_rusted (hC.mono (by decide)) ha hwt ?_))
  · exact hQ
  · exact hQ
  · refine zq ?_ hQ
    exact nI_i (if_neg fun e => ‹¬ nI w = nI t› (nI_i e)).symm
  · refine zq ?_ hQ
    exact nI_i (if_pos ((nI_eq (by omega) (by omega)).mp ‹nI w = nI t›)).symm
  · exact zq er hQ
  · exact hQ
end SMALL
end
section
/-! The state as natural numbers (S), and what is asked of it. S 0: 0 hours 1 vanes 2 seen 3 page's length 4 days 5 asks 6 kept? 7 kept vanes 8 kept seen; S 1 winds (4: not known), 2 kinds, 3 starts, 4 twists, 5 page, 6 7 8 seen (vane, hour, quarter), 9 kept winds, 10 kept twists, 11 12 13 kept seen. -/
def wI (n : Nat) : Int32 := if n < 4 then nI n else -1
theorem up {P : Nat → Prop} (N : Nat) (h : ∀ i, i ≤ N → (i + 1 ≤ N → P (i + 1)) → P i) : ∀ i, i ≤ N → P i := by
  have : ∀ m i, i ≤ N → N - i ≤ m → P i := by
    intro m
    induction m with
    | zero => intro i hi hm; exact h i hi (fun h2 => absurd h2 (by omega))
    | succ m ih => intro i hi hm; exact h i hi (fun h2 => ih (i + 1) h2 (by omega))
  intro i hi
  exact this (N - i) i hi (Nat.le_refl _)
/-- the heaps differ at these places alone -/
def eqx (ps : List Nat) (G G' : Nat → Nat → Int32) : Prop := ∀ p, sm_mem ps p = false → G' p = G p
theorem eqx_rfl {ps : List Nat} {G : Nat → Nat → Int32} : eqx ps G G := fun _ _ => rfl
theorem sm_mem_app {a b : List Nat} {p : Nat} : sm_mem (a ++ b) p = (sm_mem a p || sm_mem b p) := by
  induction a with
  | nil => simp [sm_mem]
  | cons x r ih =>
    simp only [List.cons_append, sm_mem, ih]
    cases Nat.beq x p <;> simp
theorem eqx_su {ps : List Nat} {G G' : Nat → Nat → Int32} (k : Nat) (x : Nat → Int32) (hk : sm_mem ps k = true) (h : eqx ps G G') : eqx ps G (su G' k x) := by
  intro p hp
  rw [su_ne]
  · exact h p hp
  · rintro rfl
    rw [hk] at hp
    cases hp
theorem eqx_sub {ps qs : List Nat} {G G' : Nat → Nat → Int32} (hs : (ps.all (sm_mem qs)) = true) (h : eqx ps G G') : eqx qs G G' := by
  intro p hp
  refine h p ?_
  cases hm : sm_mem ps p with
  | false => rfl
  | true =>
    have : ∀ l : List Nat, (l.all (sm_mem qs)) = true → sm_mem l p = true → sm_mem qs p = true := by
      intro l
      induction l with
      | nil => intro _ h; cases h
      | cons a r ih =>
        intro h1 h2
        simp only [List.all_cons, Bool.and_eq_true] at h1
        simp only [sm_mem] at h2
        cases hb : Nat.beq a p with
        | true => rw [← Nat.eq_of_beq_eq_true hb]; exact h1.1
        | false => rw [hb] at h2; exact ih h1.2 h2
    rw [this ps hs hm] at hp
    cases hp
theorem eqx_trans {ps : List Nat} {G G' G2 : Nat → Nat → Int32} (h : eqx ps G G') (h2 : eqx ps G' G2) : eqx ps G G2 := fun p hp => (h2 p hp).trans (h p hp)
-- the ranges
def dR (S : Nat → Nat → Nat) : Prop := S 0 0 ≤ 6 ∧ S 0 1 ≤ 4 ∧ (∀ i, i < S 0 0 → S 1 i ≤ 4) ∧ (∀ i, i < S 0 1 → S 2 i ≤ 4 ∧ S 3 i < 4 ∧ S 4 i < 4)
def nR (S : Nat → Nat → Nat) : Prop := S 0 2 ≤ 10 ∧ (∀ k, k < S 0 2 → S 6 k < S 0 1 ∧ S 7 k < S 0 0 ∧ S 8 k < 4)
-- the day and the vanes, in the class (hill) and in the other one
def cD (S : Nat → Nat → Nat) (G : Nat → Nat → Int32) : Prop := G 3 0 = nI (S 0 0) ∧ G 3 2 = nI (S 0 1) ∧ (∀ i, i < S 0 0 → G 4 i = wI (S 1 i)) ∧ (∀ i, i < S 0 1 → G 5 i = nI (S 2 i) ∧ G 6 i = nI (S 3 i) ∧ G 7 i = nI (S 4 i))
def mD (S : Nat → Nat → Nat) (G : Nat → Nat → Int32) : Prop := G 30 1 = nI (S 0 0) ∧ G 30 3 = nI (S 0 1) ∧ (∀ i, i < S 0 0 → G 31 i = wI (S 1 i)) ∧ (∀ i, i < S 0 1 → G 32 i = nI (S 2 i) ∧ G 33 i = nI (S 3 i) ∧ G 34 i = nI (S 4 i))
/-- what is seen leaves of a vane in an hour this quarter -/
def ob (S : Nat → Nat → Nat) (v h q : Nat) : Bool := decide (∀ k, k < S 0 2 → S 6 k = v → S 7 k = h → S 8 k = q)
def bn (b : Bool) : Nat := cond b 1 0
def lf (S : Nat → Nat → Nat) (v h : Nat) : Nat := bn (ob S v h 0) + 2 * bn (ob S v h 1) + 4 * bn (ob S v h 2) + 8 * bn (ob S v h 3)
theorem bn_lt (b : Bool) : bn b < 2 := by cases b <;> decide
theorem lf_lt (S : Nat → Nat → Nat) (v h : Nat) : lf S v h < 16 := by
  have h0 := bn_lt (ob S v h 0)
  have h1 := bn_lt (ob S v h 1)
  have h2 := bn_lt (ob S v h 2)
  have h3 := bn_lt (ob S v h 3)
  unfold lf
  omega
theorem lf_bit (S : Nat → Nat → Nat) (v h q : Nat) (hq : q < 4) : lf S v h / 2 ^ q % 2 = bn (ob S v h q) := by
  have h0 := bn_lt (ob S v h 0)
  have h1 := bn_lt (ob S v h 1)
  have h2 := bn_lt (ob S v h 2)
  have h3 := bn_lt (ob S v h 3)
  unfold lf
  match q, hq with
  | 0, _ => omega
  | 1, _ => omega
  | 2, _ => omega
  | 3, _ => omega
def cL (S : Nat → Nat → Nat) (G : Nat → Nat → Int32) : Prop := ∀ v, v < 4 → ∀ h, h < 6 → G 9 (v * 6 + h) = nI (lf S v h)
def mS (S : Nat → Nat → Nat) (G : Nat → Nat → Int32) : Prop := G 30 7 = nI (S 0 2) ∧ (∀ k, k < S 0 2 → G 35 k = nI (S 6 k) ∧ G 36 k = nI (S 7 k) ∧ G 37 k = nI (S 8 k))
/-- a vane, having pointed at a, behind the wind w -/
def tv (S : Nat → Nat → Nat) (v a w : Nat) : Nat := trn (S 2 v) (S 4 v) a w
/-- where a vane points ahead of hour h, by the winds w -/
def ps (S : Nat → Nat → Nat) (w : Nat → Nat) (v : Nat) : Nat → Nat
  | 0 => S 3 v
  | h + 1 => tv S v (ps S w v h) (w h)
theorem ps_lt {S : Nat → Nat → Nat} {w : Nat → Nat} {v : Nat} (h3 : S 3 v < 4) : ∀ h, (∀ i, i < h → w i < 4) → ps S w v h < 4
  | 0, _ => h3
  | h + 1, hw => trn_lt (ps_lt h3 h (fun i hi => hw i (by omega))) (hw h (by omega))
theorem ps_congr {S : Nat → Nat → Nat} {w w' : Nat → Nat} {v : Nat} : ∀ h, (∀ i, i < h → w i = w' i) → ps S w v h = ps S w' v h
  | 0, _ => rfl
  | h + 1, hw => by
    show tv S v _ _ = tv S v _ _
    rw [ps_congr h (fun i hi => hw i (by omega)), hw h (by omega)]
/-- all poses in one number, two bits a vane -/
def zp : Nat → (Nat → Nat) → Nat
  | 0, _ => 0
  | n + 1, f => zp n f + f n * 4 ^ n
theorem zp_lt {f : Nat → Nat} : ∀ {n : Nat}, (∀ i, i < n → f i < 4) → zp n f < 4 ^ n
  | 0, _ => Nat.zero_lt_one
  | n + 1, h => by
    have h1 := zp_lt (n := n) (fun i hi => h i (by omega))
    have h2 : f n ≤ 3 := by have := h n (by omega); omega
    have h3 : f n * 4 ^ n ≤ 3 * 4 ^ n := Nat.mul_le_mul_right _ h2
    rw [Nat.pow_succ]
    show zp n f + f n * 4 ^ n < _
    omega
theorem zp_congr {f g : Nat → Nat} : ∀ {n : Nat}, (∀ i, i < n → f i = g i) → zp n f = zp n g
  | 0, _ => rfl
  | n + 1, h => by
    show zp n f + _ = zp n g + _
    rw [zp_congr (n := n) (fun i hi => h i (by omega)), h n (by omega)]
theorem zp_at {f : Nat → Nat} : ∀ {n v : Nat}, (∀ i, i < n → f i < 4) → v < n → zp n f / 4 ^ v % 4 = f v
  | 0, v, _, hv => absurd hv (Nat.not_lt_zero _)
  | n + 1, v, h, hv => by
    have h1 := zp_lt (n := n) (fun i hi => h i (by omega))
    show (zp n f + f n * 4 ^ n) / 4 ^ v % 4 = f v
    by_cases hn : v = n
    · subst hn
      rw [Nat.add_mul_div_right _ _ (Nat.pow_pos (by decide)), Nat.div_eq_of_lt h1, Nat.zero_add]
      exact Nat.mod_eq_of_lt (h v (by omega))
    · have hv' : v < n := by omega
      obtain ⟨d, rfl⟩ : ∃ d, n = v + 1 + d := ⟨n - v - 1, by omega⟩
      have e : f (v + 1 + d) * 4 ^ (v + 1 + d) = (4 * (f (v + 1 + d) * 4 ^ d)) * 4 ^ v := by
        rw [show v + 1 + d = d + 1 + v by omega, Nat.pow_add, Nat.pow_succ]
        simp only [Nat.mul_assoc, Nat.mul_comm, Nat.mul_left_comm]
      rw [e, Nat.add_mul_div_right _ _ (Nat.pow_pos (by decide)), Nat.add_mul_mod_self_left]
      exact zp_at (n := v + 1 + d) (fun i hi => h i (by omega)) hv'
theorem zp_or {f : Nat → Nat} {n : Nat} (h : ∀ i, i < n → f i < 4) (b : Nat) : zp n f ||| b * 4 ^ n = zp n f + b * 4 ^ n := by
  have h1 := zp_lt h
  rw [Nat.or_comm, Nat.mul_comm b, show (4 : Nat) ^ n = 2 ^ (2 * n) from by rw [Nat.pow_mul]] at *
  rw [← Nat.two_pow_add_eq_or_of_lt h1, Nat.add_comm]
theorem zp_256 {f : Nat → Nat} {n : Nat} (hn : n ≤ 4) (h : ∀ i, i < n → f i < 4) : zp n f < 256 := by
  have h1 := zp_lt h
  have : 4 ^ n ≤ 4 ^ 4 := Nat.pow_le_pow_right (by decide) hn
  omega
/-- nothing that is seen in the hour speaks against it -/
def ag (S : Nat → Nat → Nat) (h : Nat) (f : Nat → Nat) : Bool := decide (∀ v, v < S 0 1 → ob S v h (f v) = true)
def may (S : Nat → Nat → Nat) (h q : Nat) : Bool := Nat.beq (S 1 h) 4 || Nat.beq (S 1 h) q
def s4 (g : Nat → Nat) : Nat := g 0 + g 1 + g 2 + g 3
/-- by how many winds, of n hours from h on, the others being w -/
def cn (S : Nat → Nat → Nat) : Nat → Nat → (Nat → Nat) → ((Nat → Nat) → Bool) → Nat
  | 0, _, w, P => bn (P w)
  | n + 1, h, w, P => s4 (fun q => cond (may S h q) (cn S n (h + 1) (su w h q) P) 0)
/-- all that is seen is so by these winds -/
def ft (S : Nat → Nat → Nat) (w : Nat → Nat) : Bool := decide (∀ k, k < S 0 2 → ps S w (S 6 k) (S 7 k + 1) = S 8 k)
/-- by how many winds of the day -/
def cnt (S : Nat → Nat → Nat) (P : (Nat → Nat) → Bool) : Nat := cn S (S 0 0) 0 (fun _ => 0) (fun w => ft S w && P w)
theorem zn_sh2 {a v : Nat} (hv : v < 8) : sm_shl (nI a) (nI 2 * nI v) = nI (a * 4 ^ v) := by
  rw [pk_mul, zn_shl (by omega), Nat.pow_mul]
theorem zn_at2 {a v : Nat} (ha : a < 2 ^ 31) (hv : v < 8) : sm_shr (nI a) (nI 2 * nI v) &&& nI 3 = nI (a / 4 ^ v % 4) := by
  rw [pk_mul, zn_shr ha (by omega), Nat.pow_mul, zn_a3]
theorem zn_a1 (a : Nat) : nI a &&& nI 1 = nI (a % 2) := by
  rw [zn_and, show (1 : Nat) = 2 ^ 1 - 1 from rfl, Nat.and_two_pow_sub_one_eq_mod]
theorem zn_bit {a q : Nat} (ha : a < 2 ^ 31) (hq : q < 32) : sm_shr (nI a) (nI q) &&& nI 1 = nI (a / 2 ^ q % 2) := by
  rw [zn_shr ha hq, zn_a1]
theorem zn_clI {i : Nat} (h : i < 2 ^ 31) : (nI i).toNatClampNeg = i := nI_clamp h
theorem wI_t {n : Nat} (h : n < 4) : wI n = nI n := if_pos h
theorem wI_4 : wI 4 = -1 := rfl
theorem wI_m {n : Nat} (h : n ≤ 4) : wI n = -1 ↔ n = 4 := by
  by_cases h4 : n = 4
  · subst h4; simp [wI_4]
  · rw [wI_t (by omega)]
    exact ⟨fun e => absurd e (zn_nem (by omega)), fun e => absurd e h4⟩
theorem wI_q {n q : Nat} (h : n ≤ 4) (hq : q < 4) : wI n = nI q ↔ n = q := by
  by_cases h4 : n = 4
  · subst h4
    exact ⟨fun e => absurd e.symm (zn_nem (by omega)), fun e => absurd e (by omega)⟩
  · rw [wI_t (by omega)]
    exact nI_eq (by omega) (by omega)
/-- how many below n -/
def ct (P : Nat → Bool) : Nat → Nat
  | 0 => 0
  | n + 1 => ct P n + bn (P n)
theorem ct_le {P : Nat → Bool} : ∀ n, ct P n ≤ n
  | 0 => Nat.le_refl 0
  | n + 1 => by
    have h1 := ct_le (P := P) n
    have h2 := bn_lt (P n)
    show ct P n + bn (P n) ≤ n + 1
    omega
theorem ct_congr {P P' : Nat → Bool} : ∀ {n}, (∀ i, i < n → P i = P' i) → ct P n = ct P' n
  | 0, _ => rfl
  | n + 1, h => by
    show ct P n + bn (P n) = ct P' n + bn (P' n)
    rw [ct_congr (n := n) (fun i hi => h i (by omega)), h n (by omega)]
/-- where a vane of twist t would point behind hour h - 1, by the winds of the day -/
def pb (S : Nat → Nat → Nat) (v t : Nat) : Nat → Nat
  | 0 => S 3 v
  | h + 1 => trn (S 2 v) t (pb S v t h) (S 1 h)
theorem pb_lt {S : Nat → Nat → Nat} {v t : Nat} (h3 : S 3 v < 4) : ∀ h, (∀ i, i < h → S 1 i < 4) → pb S v t h < 4
  | 0, _ => h3
  | h + 1, hw => trn_lt (pb_lt h3 h (fun i hi => hw i (by omega))) (hw h (by omega))
theorem dc_t {p : Prop} [Decidable p] (h : p) : nI 1 = sm_b (decide p) := by simp [sm_b, h]
theorem dc_f {p : Prop} [Decidable p] (h : ¬ p) : nI 0 = sm_b (decide p) := by simp [sm_b, h]
theorem b_t {b : Bool} (h : b = true) : nI 1 = sm_b b := by subst h; rfl
theorem b_f {b : Bool} (h : b = false) : nI 0 = sm_b b := by subst h; rfl
theorem nle {i n : Nat} {x : Int32} (e : x = nI n) (hi : i < 2 ^ 31) (hn : n < 2 ^ 31) (h : ¬ x ≤ nI i) : i < n := by
  rw [e, nI_leI hn hi] at h
  omega
theorem yle {i n : Nat} {x : Int32} (e : x = nI n) (hi : i < 2 ^ 31) (hn : n < 2 ^ 31) (h : x ≤ nI i) : n ≤ i := by
  rw [e, nI_leI hn hi] at h
  exact h
theorem bn_f {b : Bool} (h : b = false) : bn b = 0 := by subst h; rfl
theorem bn_t {b : Bool} (h : b = true) : bn b = 1 := by subst h; rfl
theorem beq_t {a b : Nat} (h : a = b) : Nat.beq a b = true := by subst h; exact Nat.beq_refl a
theorem beq_f {a b : Nat} (h : a ≠ b) : Nat.beq a b = false := by
  cases hb : Nat.beq a b with
  | false => rfl
  | true => exact absurd (Nat.eq_of_beq_eq_true hb) h
theorem zn_inb {a b c n : Nat} (h : a * b + c < n) (hn : n < 2 ^ 31) : sm_in (nI a * nI b + nI c) n := by
  rw [pk_mul, nI_add]
  exact zn_in h hn
theorem zn_ina {a c n : Nat} (h : a + c < n) (hn : n < 2 ^ 31) : sm_in (nI a + nI c) n := by
  rw [nI_add]
  exact zn_in h hn
theorem zn_inc {a b c n : Nat} (h : a * b + c < n) (hn : n < 2 ^ 31) : sm_in (nI b * nI a + nI c) n := by
  rw [pk_mul, nI_add, Nat.mul_comm]
  exact zn_in h hn
theorem nz_eq {b : Bool} (h : nI (bn b) = nI 0) : b = false := by
  cases b
  · rfl
  · exact absurd h (by decide)
theorem nz_ne {b : Bool} (h : ¬ nI (bn b) = nI 0) : b = true := by
  cases b
  · exact absurd rfl h
  · rfl
theorem zlt {a b : Nat} (ha : a < 2 ^ 31) (hb : b < 2 ^ 31) (h : nI a < nI b) : a < b := (nI_ltI ha hb).mp h
theorem znl {a b : Nat} (ha : a < 2 ^ 31) (hb : b < 2 ^ 31) (h : ¬ nI a < nI b) : b ≤ a := by
  rw [nI_ltI ha hb] at h
  omega
theorem zle {a b : Nat} (ha : a < 2 ^ 31) (hb : b < 2 ^ 31) (h : nI a ≤ nI b) : a ≤ b := (nI_leI ha hb).mp h
theorem znle {a b : Nat} (ha : a < 2 ^ 31) (hb : b < 2 ^ 31) (h : ¬ nI a ≤ nI b) : b < a := by
  rw [nI_leI ha hb] at h
  omega
theorem zeq {a b : Nat} (ha : a < 2 ^ 31) (hb : b < 2 ^ 31) (h : nI a = nI b) : a = b := (nI_eq ha hb).mp h
theorem zneq {a b : Nat} (h : ¬ nI a = nI b) : a ≠ b := fun e => h (nI_i e)
theorem sb_f {b : Bool} (h : sm_b b = nI 0) : b = false := by
  cases b
  · rfl
  · exact absurd h (by decide)
theorem sb_t {b : Bool} (h : ¬ sm_b b = nI 0) : b = true := by
  cases b
  · exact absurd rfl h
  · rfl
/-- some winds of n hours from h on fit, the vanes pointing f ahead of it -/
def cf (S : Nat → Nat → Nat) : Nat → Nat → (Nat → Nat) → Bool
  | 0, _, _ => true
  | n + 1, h, f => (may S h 0 && ag S h (fun v => tv S v (f v) 0) && cf S n (h + 1) (fun v => tv S v (f v) 0)) ||
    (may S h 1 && ag S h (fun v => tv S v (f v) 1) && cf S n (h + 1) (fun v => tv S v (f v) 1)) ||
    (may S h 2 && ag S h (fun v => tv S v (f v) 2) && cf S n (h + 1) (fun v => tv S v (f v) 2)) ||
    (may S h 3 && ag S h (fun v => tv S v (f v) 3) && cf S n (h + 1) (fun v => tv S v (f v) 3))
def cfq (S : Nat → Nat → Nat) (n h : Nat) (f : Nat → Nat) (q : Nat) : Bool := may S h q && ag S h (fun v => tv S v (f v) q) && cf S n (h + 1) (fun v => tv S v (f v) q)
theorem cf_t {S : Nat → Nat → Nat} {n h q : Nat} {f : Nat → Nat} (hq : q < 4) (e : cfq S n h f q = true) : cf S (n + 1) h f = true := by
  unfold cf
  unfold cfq at e
  match q, hq with
  | 0, _ => rw [e]; simp
  | 1, _ => rw [e]; simp
  | 2, _ => rw [e]; simp
  | 3, _ => rw [e]; simp
theorem cf_f {S : Nat → Nat → Nat} {n h : Nat} {f : Nat → Nat} (e : ∀ q, q < 4 → cfq S n h f q = false) : cf S (n + 1) h f = false := by
  unfold cf
  have e0 := e 0 (by decide)
  have e1 := e 1 (by decide)
  have e2 := e 2 (by decide)
  have e3 := e 3 (by decide)
  unfold cfq at e0 e1 e2 e3
  rw [e0, e1, e2, e3]
  rfl
end
section
/-! The hill's methods that change nothing. -/
section HILL
variable {CT : sm_CT} {G : Nat → Nat → Int32} {L : Nat → Nat → Int64} {Q : sm_Q} {S : Nat → Nat → Nat}
set_option maxRecDepth 100000 in
set_option maxHeartbeats 4000000 in
theorem s_hasHour (hC : sm_C 1 CT) {n : Nat} (e : G 3 0 = nI n) (hn : n ≤ 6) {x : Int32} (h1 : ∀ j, j < n → x = nI j → Q (some (.int (nI 1))) (hp G L)) (h0 : inb x n = false → Q (some (.int (nI 0))) (hp G L)) : CT 1 [.ref 3, .int x] (hp G L) Q := by
  refine sm_meth hC [some (.ref 3), some (.int x)] rfl rfl rfl ?_
  refine sm_body [] 40 sm_k1 (fun CT K hC hK => ?_)
  repeat' first
    | (with_reducible refine And.intro ?_ ?_)
    | ((with_reducible intro h9); first | exact absurd h9 (by decide) | skip)
    | (with_reducible exact zn_in (by omega) (by decide))
    | (with_reducible exact z01) | (with_reducible exact z11) | (with_reducible exact zb01 _)
    | (with_reducible exact zn_inb (by omega) (by decide))
    | (with_reducible exact zn_ina (by omega) (by decide))
    | (with_reducible exact zn_inc (by omega) (by decide))
    | ((conv => whnf); first | (with_reducible refine And.intro ?_ ?_) | ((with_reducible intro h9); first | exact absurd h9 (by decide) | skip) | (with_reducible refine hK _ _ _ _ (sm_un ?_)) | (with_reducible exact z01) | (with_reducible exact z11))
  · exact h0 (inb_lo ‹_›)
  · rw [e] at h9
    exact h0 (inb_hi h9 (by omega))
  · rw [e] at h9
    obtain ⟨j, hj, e⟩ := inb_t ‹¬ x < nI 0› (Int32.not_le.mp h9) (by omega)
    exact h1 j hj e
set_option maxRecDepth 100000 in
set_option maxHeartbeats 4000000 in
theorem s_hasVane (hC : sm_C 1 CT) {n : Nat} (e : G 3 2 = nI n) (hn : n ≤ 4) {x : Int32} (h1 : ∀ j, j < n → x = nI j → Q (some (.int (nI 1))) (hp G L)) (h0 : inb x n = false → Q (some (.int (nI 0))) (hp G L)) : CT 2 [.ref 3, .int x] (hp G L) Q := by
  refine sm_meth hC [some (.ref 3), some (.int x)] rfl rfl rfl ?_
  refine sm_body [] 40 sm_k2 (fun CT K hC hK => ?_)
  repeat' first
    | (with_reducible refine And.intro ?_ ?_)
    | ((with_reducible intro h9); first | exact absurd h9 (by decide) | skip)
    | (with_reducible exact zn_in (by omega) (by decide))
    | (with_reducible exact z01) | (with_reducible exact z11) | (with_reducible exact zb01 _)
    | (with_reducible exact zn_inb (by omega) (by decide))
    | (with_reducible exact zn_ina (by omega) (by decide))
    | (with_reducible exact zn_inc (by omega) (by decide))
    | ((conv => whnf); first | (with_reducible refine And.intro ?_ ?_) | ((with_reducible intro h9); first | exact absurd h9 (by decide) | skip) | (with_reducible refine hK _ _ _ _ (sm_un ?_)) | (with_reducible exact z01) | (with_reducible exact z11))
  · exact h0 (inb_lo ‹_›)
  · rw [e] at h9
    exact h0 (inb_hi h9 (by omega))
  · rw [e] at h9
    obtain ⟨j, hj, e⟩ := inb_t ‹¬ x < nI 0› (Int32.not_le.mp h9) (by omega)
    exact h1 j hj e
set_option maxRecDepth 100000 in
set_option maxHeartbeats 4000000 in
theorem s_mayBlow (hC : sm_C 1 CT) (hD : cD S G) (hR : dR S) {h q : Nat} (hh : h < S 0 0) (hq : q < 4) (hQ : Q (some (.int (sm_b (may S h q)))) (hp G L)) : CT 10 [.ref 3, .int (nI h), .int (nI q)] (hp G L) Q := by
  obtain ⟨e1, e2, e3, e4⟩ := hD
  obtain ⟨r1, r2, r3, r4⟩ := hR
  have ci : (nI h).toNatClampNeg = h := nI_clamp (by omega)
  have k4 := r3 h hh
  refine sm_meth hC [some (.ref 3), some (.int (nI h)), some (.int (nI q))] rfl rfl rfl ?_
  refine sm_body [] 40 sm_k10 (fun CT K hC hK => ?_)
  repeat' first
    | (with_reducible refine And.intro ?_ ?_)
    | ((with_reducible intro h9); first | exact absurd h9 (by decide) | skip)
    | (with_reducible exact zn_in (by omega) (by decide))
    | (with_reducible exact z01) | (with_reducible exact z11) | (with_reducible exact zb01 _)
    | (with_reducible exact zn_inb (by omega) (by decide))
    | (with_reducible exact zn_ina (by omega) (by decide))
    | (with_reducible exact zn_inc (by omega) (by decide))
    | ((conv => whnf); first | (with_reducible refine And.intro ?_ ?_) | ((with_reducible intro h9); first | exact absurd h9 (by decide) | skip) | (with_reducible refine hK _ _ _ _ (sm_un ?_)) | (with_reducible exact z01) | (with_reducible exact z11))
  all_goals simp only [ci, e3 h hh, wI_m k4, wI_q k4 hq] at *
  all_goals first
    | (refine zq (b_t ?_) hQ; rw [may, beq_t ‹_›]; rfl)
    | (refine zq (b_f ?_) hQ; rw [may, beq_f ‹_›, beq_f ‹_›]; rfl)
    | (refine zq (b_t ?_) hQ; rw [may, beq_t (b := q) ‹_›, Bool.or_true])
set_option maxRecDepth 100000 in
set_option maxHeartbeats 4000000 in
theorem s_startPose (hC : sm_C 1 CT) (hD : cD S G) (hR : dR S) (hQ : Q (some (.int (nI (zp (S 0 1) (S 3))))) (hp G L)) : CT 13 [.ref 3] (hp G L) Q := by
  obtain ⟨e1, e2, e3, e4⟩ := hD
  obtain ⟨r1, r2, r3, r4⟩ := hR
  refine sm_meth hC [some (.ref 3), none, none] rfl rfl rfl ?_
  have lo : ∀ i, i ≤ S 0 1 → sm_Wk 0 13 Q none 4 [some (.ref 3), some (.int (nI (zp i (S 3)))), some (.int (nI i))] [] (hp G L) := by
    refine up _ (fun i hi ih => ?_)
    refine sm_body [4] 40 sm_k13 (fun CT K hC hK => ?_)
    repeat' first
      | (with_reducible refine And.intro ?_ ?_)
      | ((with_reducible intro h9); first | exact absurd h9 (by decide) | (replace h9 := nle e2 (by omega) (by omega) h9) | (replace h9 := yle e2 (by omega) (by omega) h9) | skip)
      | (with_reducible exact zn_in (by omega) (by decide))
      | (with_reducible exact z01) | (with_reducible exact z11) | (with_reducible exact zb01 _)
      | (with_reducible exact zn_inb (by omega) (by decide))
      | (with_reducible exact zn_ina (by omega) (by decide))
      | (with_reducible exact zn_inc (by omega) (by decide))
      | ((conv => whnf); first | (with_reducible refine And.intro ?_ ?_) | ((with_reducible intro h9); first | exact absurd h9 (by decide) | (replace h9 := nle e2 (by omega) (by omega) h9) | (replace h9 := yle e2 (by omega) (by omega) h9) | skip) | (with_reducible refine hK _ _ _ _ (sm_un ?_)))
    · obtain rfl : i = S 0 1 := by omega
      exact hQ
    · have hl := h9
      simp only [zn_clI (show i < 2 ^ 31 by omega), (e4 i hl).2.1, zn_sh2 (show i < 8 by omega), zn_or, zp_or (f := S 3) (n := i) (fun i hi => (r4 i (by omega)).2.1), nI_add]
      exact ⟨⟨ih hl⟩⟩
  refine sm_body [4] 40 sm_k13 (fun CT K hC hK => ?_)
  repeat' first
    | (with_reducible refine And.intro ?_ ?_)
    | ((with_reducible intro h9); first | exact absurd h9 (by decide) | skip)
    | (with_reducible exact zn_in (by omega) (by decide))
    | (with_reducible exact z01) | (with_reducible exact z11) | (with_reducible exact zb01 _)
    | (with_reducible exact zn_inb (by omega) (by decide))
    | (with_reducible exact zn_ina (by omega) (by decide))
    | (with_reducible exact zn_inc (by omega) (by decide))
    | ((conv => whnf); first | (with_reducible refine And.intro ?_ ?_) | ((with_reducible intro h9); first | exact absurd h9 (by decide) | skip) | (with_reducible refine hK _ _ _ _ (sm_un ?_)))
  exact ⟨⟨lo 0 (Nat.zero_le _)⟩⟩
set_option maxRecDepth 100000 in
set_option maxHeartbeats 4000000 in
theorem s_turnedPose (hC : sm_C 3 CT) (hD : cD S G) (hR : dR S) {f : Nat → Nat} {w : Nat} (hf : ∀ v, v < S 0 1 → f v < 4) (hw : w < 4) (hQ : Q (some (.int (nI (zp (S 0 1) (fun v => tv S v (f v) w))))) (hp G L)) : CT 14 [.ref 3, .int (nI (zp (S 0 1) f)), .int (nI w)] (hp G L) Q := by
  obtain ⟨e1, e2, e3, e4⟩ := hD
  obtain ⟨r1, r2, r3, r4⟩ := hR
  have h256 := zp_256 r2 hf
  refine sm_meth hC [some (.ref 3), some (.int (nI (zp (S 0 1) f))), some (.int (nI w)), none, none] rfl rfl rfl ?_
  have lo : ∀ i, i ≤ S 0 1 → sm_Wk 2 14 Q none 5 [some (.ref 3), some (.int (nI (zp (S 0 1) f))), some (.int (nI w)), some (.int (nI (zp i (fun v => tv S v (f v) w)))), some (.int (nI i))] [] (hp G L) := by
    refine up _ (fun i hi ih => ?_)
    refine sm_body [5] 60 sm_k14 (fun CT K hC hK => ?_)
    repeat' first
      | (with_reducible refine And.intro ?_ ?_)
      | ((with_reducible intro h9); first | exact absurd h9 (by decide) | (replace h9 := nle e2 (by omega) (by omega) h9) | (replace h9 := yle e2 (by omega) (by omega) h9) | skip)
      | (with_reducible exact zn_in (by omega) (by decide))
      | (with_reducible exact z01) | (with_reducible exact z11) | (with_reducible exact zb01 _)
      | (with_reducible exact zn_inb (by omega) (by decide))
      | (with_reducible exact zn_ina (by omega) (by decide))
      | (with_reducible exact zn_inc (by omega) (by decide))
      | ((conv => whnf); first | (with_reducible refine And.intro ?_ ?_) | ((with_reducible intro h9); first | exact absurd h9 (by decide) | (replace h9 := nle e2 (by omega) (by omega) h9) | (replace h9 := yle e2 (by omega) (by omega) h9) | skip) | (with_reducible refine hK _ _ _ _ (sm_un ?_)) | (simp only [zn_clI (show i < 2 ^ 31 by omega), (e4 i h9).1, (e4 i h9).2.2, zn_at2 (show zp (S 0 1) f < 2 ^ 31 by omega) (show i < 8 by omega), zp_at hf h9]; refine s_turned (hC.mono (by decide)) (r4 i h9).1 (r4 i h9).2.2 (hf i h9) hw ?_))
    · obtain rfl : i = S 0 1 := by omega
      exact hQ
    · simp only [zn_sh2 (show i < 8 by omega), zn_or, nI_add]
      have ez := zp_or (f := fun v => tv S v (f v) w) (n := i) (fun j hj => trn_lt (hf j (by omega)) hw) (tv S i (f i) w)
      unfold tv at ez
      simp only [tv, ez]
      exact ⟨⟨ih h9⟩⟩
  refine sm_body [5] 40 sm_k14 (fun CT K hC hK => ?_)
  repeat' first
    | (with_reducible refine And.intro ?_ ?_)
    | ((with_reducible intro h9); first | exact absurd h9 (by decide) | skip)
    | (with_reducible exact zn_in (by omega) (by decide))
    | (with_reducible exact z01) | (with_reducible exact z11) | (with_reducible exact zb01 _)
    | (with_reducible exact zn_inb (by omega) (by decide))
    | (with_reducible exact zn_ina (by omega) (by decide))
    | (with_reducible exact zn_inc (by omega) (by decide))
    | ((conv => whnf); first | (with_reducible refine And.intro ?_ ?_) | ((with_reducible intro h9); first | exact absurd h9 (by decide) | skip) | (with_reducible refine hK _ _ _ _ (sm_un ?_)))
  exact ⟨⟨lo 0 (Nat.zero_le _)⟩⟩
set_option maxRecDepth 100000 in
set_option maxHeartbeats 4000000 in
theorem s_agrees (hC : sm_C 1 CT) (hD : cD S G) (hR : dR S) (hL : cL S G) {f : Nat → Nat} {h : Nat} (hf : ∀ v, v < S 0 1 → f v < 4) (hh : h < S 0 0) (hQ : Q (some (.int (sm_b (ag S h f)))) (hp G L)) : CT 15 [.ref 3, .int (nI h), .int (nI (zp (S 0 1) f))] (hp G L) Q := by
  obtain ⟨e1, e2, e3, e4⟩ := hD
  obtain ⟨r1, r2, r3, r4⟩ := hR
  have h256 := zp_256 r2 hf
  refine sm_meth hC [some (.ref 3), some (.int (nI h)), some (.int (nI (zp (S 0 1) f))), none, none] rfl rfl rfl ?_
  have lo : ∀ i, i ≤ S 0 1 → ∀ o, (∀ v, v < i → ob S v h (f v) = true) → sm_Wk 0 15 Q none 2 [some (.ref 3), some (.int (nI h)), some (.int (nI (zp (S 0 1) f))), some (.int (nI i)), o] [] (hp G L) := by
    refine up _ (fun i hi ih o hv => ?_)
    refine sm_body [2] 60 sm_k15 (fun CT K hC hK => ?_)
    have eb : i < S 0 1 → sm_shr (G 9 (nI i * nI 6 + nI h).toNatClampNeg) (sm_shr (nI (zp (S 0 1) f)) (nI 2 * nI i) &&& nI 3) &&& nI 1 = nI (bn (ob S i h (f i))) := by
      intro hl
      have hx := lf_lt S i h
      have hy := hf i hl
      rw [pk_mul, nI_add, zn_clI (by omega), zn_at2 (by omega) (by omega), zp_at hf hl, hL i (by omega) h (by omega), zn_bit (by omega) (by omega), lf_bit _ _ _ _ hy]
    repeat' first
      | (with_reducible refine And.intro ?_ ?_)
      | ((with_reducible intro h9); first | exact absurd h9 (by decide) | (replace h9 := nle e2 (by omega) (by omega) h9) | (replace h9 := yle e2 (by omega) (by omega) h9) | (rw [eb ‹_›] at h9) | skip)
      | (with_reducible exact zn_in (by omega) (by decide))
      | (with_reducible exact z01) | (with_reducible exact z11) | (with_reducible exact zb01 _)
      | (with_reducible exact zn_inb (by omega) (by decide))
      | (with_reducible exact zn_ina (by omega) (by decide))
      | (with_reducible exact zn_inc (by omega) (by decide))
      | ((conv => whnf); first | (with_reducible refine And.intro ?_ ?_) | ((with_reducible intro h9); first | exact absurd h9 (by decide) | (replace h9 := nle e2 (by omega) (by omega) h9) | (replace h9 := yle e2 (by omega) (by omega) h9) | (rw [eb ‹_›] at h9) | skip) | (with_reducible refine hK _ _ _ _ (sm_un ?_)) | (with_reducible exact z01) | (with_reducible exact z11))
    all_goals first
      | ((obtain rfl : i = S 0 1 := by omega); exact zq (dc_t hv) hQ)
      | (exact zq (dc_f fun hx => by rw [hx i ‹_›] at h9; exact absurd h9 (by decide)) hQ)
      | (have e : ∀ v, v < i + 1 → ob S v h (f v) = true := (fun v hv2 => if hvi : v = i then (by subst hvi; exact nz_ne h9) else hv v (by omega)); simp only [nI_add]; exact ⟨⟨ih ‹_› _ e⟩⟩)
  refine sm_body [2] 40 sm_k15 (fun CT K hC hK => ?_)
  repeat' first
    | (with_reducible refine And.intro ?_ ?_)
    | ((with_reducible intro h9); first | exact absurd h9 (by decide) | skip)
    | (with_reducible exact zn_in (by omega) (by decide))
    | (with_reducible exact z01) | (with_reducible exact z11) | (with_reducible exact zb01 _)
    | (with_reducible exact zn_inb (by omega) (by decide))
    | (with_reducible exact zn_ina (by omega) (by decide))
    | (with_reducible exact zn_inc (by omega) (by decide))
    | ((conv => whnf); first | (with_reducible refine And.intro ?_ ?_) | ((with_reducible intro h9); first | exact absurd h9 (by decide) | skip) | (with_reducible refine hK _ _ _ _ (sm_un ?_)))
  exact ⟨⟨lo 0 (Nat.zero_le _) _ (fun v hv => absurd hv (Nat.not_lt_zero _))⟩⟩
set_option maxRecDepth 100000 in
set_option maxHeartbeats 4000000 in
theorem s_isMoreThanHalf (hC : sm_C 1 CT) (e2 : G 3 2 = nI (S 0 1)) (hv : S 0 1 ≤ 4) {a : Nat} (ha : a < 100) (hQ : Q (some (.int (sm_b (decide (S 0 1 < 2 * a))))) (hp G L)) : CT 20 [.ref 3, .int (nI a)] (hp G L) Q := by
  refine sm_meth hC [some (.ref 3), some (.int (nI a))] rfl rfl rfl ?_
  refine sm_body [] 40 sm_k20 (fun CT K hC hK => ?_)
  repeat' first
    | (with_reducible refine And.intro ?_ ?_)
    | ((with_reducible intro h9); first | exact absurd h9 (by decide) | skip)
    | (with_reducible exact zn_in (by omega) (by decide))
    | (with_reducible exact z01) | (with_reducible exact z11) | (with_reducible exact zb01 _)
    | (with_reducible exact zn_inb (by omega) (by decide))
    | (with_reducible exact zn_ina (by omega) (by decide))
    | (with_reducible exact zn_inc (by omega) (by decide))
    | ((conv => whnf); first | (with_reducible refine And.intro ?_ ?_) | ((with_reducible intro h9); first | exact absurd h9 (by decide) | skip) | (with_reducible refine hK _ _ _ _ (sm_un ?_)) | (with_reducible exact z01) | (with_reducible exact z11))
  all_goals rw [e2, pk_mul, nI_leI (by omega) (by omega)] at h9
  all_goals first
    | (exact zq (dc_t (by omega)) hQ)
    | (exact zq (dc_f (by omega)) hQ)
set_option maxRecDepth 100000 in
set_option maxHeartbeats 4000000 in
theorem s_isKnownUntil (hC : sm_C 1 CT) (hD : cD S G) (hR : dR S) {x : Nat} (hx : x < S 0 0) (hQ : Q (some (.int (sm_b (decide (∀ i, i < x + 1 → S 1 i < 4))))) (hp G L)) : CT 9 [.ref 3, .int (nI x)] (hp G L) Q := by
  obtain ⟨e1, e2, e3, e4⟩ := hD
  obtain ⟨r1, r2, r3, r4⟩ := hR
  refine sm_meth hC [some (.ref 3), some (.int (nI x)), none] rfl rfl rfl ?_
  have lo : ∀ i, i ≤ x + 1 → (∀ j, j < i → S 1 j < 4) → sm_Wk 0 9 Q none 2 [some (.ref 3), some (.int (nI x)), some (.int (nI i))] [] (hp G L) := by
    refine up _ (fun i hi ih hv => ?_)
    refine sm_body [2] 60 sm_k9 (fun CT K hC hK => ?_)
    have eb : i < S 0 0 → (G 4 (nI i).toNatClampNeg = -1 ↔ S 1 i = 4) := by
      intro hl
      rw [zn_clI (by omega), e3 i hl, wI_m (r3 i hl)]
    repeat' first
      | (with_reducible refine And.intro ?_ ?_)
      | ((with_reducible intro h9); first | exact absurd h9 (by decide) | (replace h9 := nle e1 (by omega) (by omega) h9) | (replace h9 := yle e1 (by omega) (by omega) h9) | (rw [eb ‹_›] at h9) | (replace h9 := zlt (by omega) (by omega) h9) | (replace h9 := znl (by omega) (by omega) h9) | skip)
      | (with_reducible exact zn_in (by omega) (by decide))
      | (with_reducible exact z01) | (with_reducible exact z11) | (with_reducible exact zb01 _)
      | (with_reducible exact zn_inb (by omega) (by decide))
      | (with_reducible exact zn_ina (by omega) (by decide))
      | (with_reducible exact zn_inc (by omega) (by decide))
      | ((conv => whnf); first | (with_reducible refine And.intro ?_ ?_) | ((with_reducible intro h9); first | exact absurd h9 (by decide) | (replace h9 := nle e1 (by omega) (by omega) h9) | (replace h9 := yle e1 (by omega) (by omega) h9) | (rw [eb ‹_›] at h9) | (replace h9 := zlt (by omega) (by omega) h9) | (replace h9 := znl (by omega) (by omega) h9) | skip) | (with_reducible refine hK _ _ _ _ (sm_un ?_)) | (with_reducible exact z01) | (with_reducible exact z11))
    all_goals first
      | (exact zq (dc_t (fun j hj => hv j (by omega))) hQ)
      | (exact zq (dc_f (fun hx => by have := hx i (by omega); omega)) hQ)
      | (have := r3 i (by omega); simp only [nI_add]; exact ⟨⟨ih (by omega) (fun j hj => if hji : j = i then (by subst hji; omega) else hv j (by omega))⟩⟩)
  refine sm_body [2] 40 sm_k9 (fun CT K hC hK => ?_)
  repeat' first
    | (with_reducible refine And.intro ?_ ?_)
    | ((with_reducible intro h9); first | exact absurd h9 (by decide) | skip)
    | (with_reducible exact zn_in (by omega) (by decide))
    | (with_reducible exact z01) | (with_reducible exact z11) | (with_reducible exact zb01 _)
    | (with_reducible exact zn_inb (by omega) (by decide))
    | (with_reducible exact zn_ina (by omega) (by decide))
    | (with_reducible exact zn_inc (by omega) (by decide))
    | ((conv => whnf); first | (with_reducible refine And.intro ?_ ?_) | ((with_reducible intro h9); first | exact absurd h9 (by decide) | skip) | (with_reducible refine hK _ _ _ _ (sm_un ?_)))
  exact ⟨⟨lo 0 (Nat.zero_le _) (fun v hv => absurd hv (Nat.not_lt_zero _))⟩⟩
set_option maxRecDepth 100000 in
set_option maxHeartbeats 4000000 in
theorem s_pointWith (hC : sm_C 3 CT) (hD : cD S G) (hR : dR S) {v t x : Nat} (hv : v < S 0 1) (ht : t < 4) (hx : x < S 0 0) (hk : ∀ i, i < x + 1 → S 1 i < 4) (hQ : Q (some (.int (nI (pb S v t (x + 1))))) (hp G L)) : CT 18 [.ref 3, .int (nI v), .int (nI t), .int (nI x)] (hp G L) Q := by
  obtain ⟨e1, e2, e3, e4⟩ := hD
  obtain ⟨r1, r2, r3, r4⟩ := hR
  have cv : (nI v).toNatClampNeg = v := nI_clamp (by omega)
  refine sm_meth hC [some (.ref 3), some (.int (nI v)), some (.int (nI t)), some (.int (nI x)), none, none] rfl rfl rfl ?_
  have lo : ∀ i, i ≤ x + 1 → sm_Wk 2 18 Q none 11 [some (.ref 3), some (.int (nI v)), some (.int (nI t)), some (.int (nI x)), some (.int (nI (pb S v t i))), some (.int (nI i))] [] (hp G L) := by
    refine up _ (fun i hi ih => ?_)
    refine sm_body [11] 60 sm_k18 (fun CT K hC hK => ?_)
    repeat' first
      | (with_reducible refine And.intro ?_ ?_)
      | ((with_reducible intro h9); first | exact absurd h9 (by decide) | (replace h9 := nle e1 (by omega) (by omega) h9) | (replace h9 := yle e1 (by omega) (by omega) h9) | (replace h9 := zlt (by omega) (by omega) h9) | (replace h9 := znl (by omega) (by omega) h9) | skip)
      | (with_reducible exact zn_in (by omega) (by decide))
      | (with_reducible exact z01) | (with_reducible exact z11) | (with_reducible exact zb01 _)
      | (with_reducible exact zn_inb (by omega) (by decide))
      | (with_reducible exact zn_ina (by omega) (by decide))
      | (with_reducible exact zn_inc (by omega) (by decide))
      | ((conv => whnf); first | (with_reducible refine And.intro ?_ ?_) | ((with_reducible intro h9); first | exact absurd h9 (by decide) | (replace h9 := nle e1 (by omega) (by omega) h9) | (replace h9 := yle e1 (by omega) (by omega) h9) | (replace h9 := zlt (by omega) (by omega) h9) | (replace h9 := znl (by omega) (by omega) h9) | skip) | (with_reducible refine hK _ _ _ _ (sm_un ?_)) | (simp only [cv, zn_clI (show i < 2 ^ 31 by omega), (e4 v hv).1, e3 i h9, wI_t (hk i (by omega))]; refine s_turned (hC.mono (by decide)) (r4 v hv).1 ht (pb_lt (r4 v hv).2.1 i (fun j hj => hk j (by omega))) (hk i (by omega)) ?_))
    all_goals first
      | ((obtain rfl : i = x + 1 := by omega); exact hQ)
      | ((exfalso; omega))
      | (simp only [nI_add]; exact ⟨⟨ih (by omega)⟩⟩)
  refine sm_body [11] 40 sm_k18 (fun CT K hC hK => ?_)
  repeat' first
    | (with_reducible refine And.intro ?_ ?_)
    | ((with_reducible intro h9); first | exact absurd h9 (by decide) | skip)
    | (with_reducible exact zn_in (by omega) (by decide))
    | (with_reducible exact z01) | (with_reducible exact z11) | (with_reducible exact zb01 _)
    | (with_reducible exact zn_inb (by omega) (by decide))
    | (with_reducible exact zn_ina (by omega) (by decide))
    | (with_reducible exact zn_inc (by omega) (by decide))
    | ((conv => whnf); first | (with_reducible refine And.intro ?_ ?_) | ((with_reducible intro h9); first | exact absurd h9 (by decide) | skip) | (with_reducible refine hK _ _ _ _ (sm_un ?_)))
  simp only [cv, (e4 v hv).2.1]
  exact ⟨⟨lo 0 (Nat.zero_le _)⟩⟩
set_option maxRecDepth 100000 in
set_option maxHeartbeats 4000000 in
theorem s_pointingAt (hC : sm_C 1 CT) (e2 : G 3 2 = nI (S 0 1)) (hv : S 0 1 ≤ 4) {f : Nat → Nat} {q : Nat} (hf : ∀ v, v < S 0 1 → f v < 4) (hq : q < 4) (hQ : Q (some (.int (nI (ct (fun v => Nat.beq (f v) q) (S 0 1))))) (hp G L)) : CT 19 [.ref 3, .int (nI (zp (S 0 1) f)), .int (nI q)] (hp G L) Q := by
  have h256 := zp_256 hv hf
  refine sm_meth hC [some (.ref 3), some (.int (nI (zp (S 0 1) f))), some (.int (nI q)), none, none] rfl rfl rfl ?_
  have lo : ∀ i, i ≤ S 0 1 → sm_Wk 0 19 Q none 5 [some (.ref 3), some (.int (nI (zp (S 0 1) f))), some (.int (nI q)), some (.int (nI (ct (fun v => Nat.beq (f v) q) i))), some (.int (nI i))] [] (hp G L) := by
    refine up _ (fun i hi ih => ?_)
    refine sm_body [5] 60 sm_k19 (fun CT K hC hK => ?_)
    have eb : i < S 0 1 → (sm_shr (nI (zp (S 0 1) f)) (nI 2 * nI i) &&& nI 3 = nI q ↔ f i = q) := by
      intro hl
      have := hf i hl
      rw [zn_at2 (by omega) (by omega), zp_at hf hl, nI_eq (by omega) (by omega)]
    repeat' first
      | (with_reducible refine And.intro ?_ ?_)
      | ((with_reducible intro h9); first | exact absurd h9 (by decide) | (replace h9 := nle e2 (by omega) (by omega) h9) | (replace h9 := yle e2 (by omega) (by omega) h9) | (rw [eb ‹_›] at h9) | skip)
      | (with_reducible exact zn_in (by omega) (by decide))
      | (with_reducible exact z01) | (with_reducible exact z11) | (with_reducible exact zb01 _)
      | (with_reducible exact zn_inb (by omega) (by decide))
      | (with_reducible exact zn_ina (by omega) (by decide))
      | (with_reducible exact zn_inc (by omega) (by decide))
      | ((conv => whnf); first | (with_reducible refine And.intro ?_ ?_) | ((with_reducible intro h9); first | exact absurd h9 (by decide) | (replace h9 := nle e2 (by omega) (by omega) h9) | (replace h9 := yle e2 (by omega) (by omega) h9) | (rw [eb ‹_›] at h9) | skip) | (with_reducible refine hK _ _ _ _ (sm_un ?_)))
    all_goals try have eq1 : (fun v => Nat.beq (f v) q) i = false := beq_f ‹_›
    all_goals try have eq2 : (fun v => Nat.beq (f v) q) i = true := beq_t ‹_›
    all_goals first
      | ((obtain rfl : i = S 0 1 := by omega); exact hQ)
      | (simp only [nI_add]; have e := ih (by omega); rw [ct, bn_f eq1] at e; exact ⟨⟨e⟩⟩)
      | (simp only [nI_add]; have e := ih (by omega); rw [ct, bn_t eq2] at e; exact ⟨⟨e⟩⟩)
  refine sm_body [5] 40 sm_k19 (fun CT K hC hK => ?_)
  repeat' first
    | (with_reducible refine And.intro ?_ ?_)
    | ((with_reducible intro h9); first | exact absurd h9 (by decide) | skip)
    | (with_reducible exact zn_in (by omega) (by decide))
    | (with_reducible exact z01) | (with_reducible exact z11) | (with_reducible exact zb01 _)
    | (with_reducible exact zn_inb (by omega) (by decide))
    | (with_reducible exact zn_ina (by omega) (by decide))
    | (with_reducible exact zn_inc (by omega) (by decide))
    | ((conv => whnf); first | (with_reducible refine And.intro ?_ ?_) | ((with_reducible intro h9); first | exact absurd h9 (by decide) | skip) | (with_reducible refine hK _ _ _ _ (sm_un ?_)))
  exact ⟨⟨lo 0 (Nat.zero_le _)⟩⟩
set_option maxRecDepth 100000 in
set_option maxHeartbeats 4000000 in
theorem s_knownWinds (hC : sm_C 1 CT) (hD : cD S G) (hR : dR S) (hQ : Q (some (.int (nI (ct (fun h => !Nat.beq (S 1 h) 4) (S 0 0))))) (hp G L)) : CT 8 [.ref 3] (hp G L) Q := by
  obtain ⟨e1, e2, e3, e4⟩ := hD
  obtain ⟨r1, r2, r3, r4⟩ := hR
  refine sm_meth hC [some (.ref 3), none, none] rfl rfl rfl ?_
  have lo : ∀ i, i ≤ S 0 0 → sm_Wk 0 8 Q none 4 [some (.ref 3), some (.int (nI (ct (fun h => !Nat.beq (S 1 h) 4) i))), some (.int (nI i))] [] (hp G L) := by
    refine up _ (fun i hi ih => ?_)
    refine sm_body [4] 60 sm_k8 (fun CT K hC hK => ?_)
    have eb : i < S 0 0 → (G 4 (nI i).toNatClampNeg = -1 ↔ S 1 i = 4) := by
      intro hl
      rw [zn_clI (by omega), e3 i hl, wI_m (r3 i hl)]
    repeat' first
      | (with_reducible refine And.intro ?_ ?_)
      | ((with_reducible intro h9); first | exact absurd h9 (by decide) | (replace h9 := nle e1 (by omega) (by omega) h9) | (replace h9 := yle e1 (by omega) (by omega) h9) | (rw [eb ‹_›] at h9) | skip)
      | (with_reducible exact zn_in (by omega) (by decide))
      | (with_reducible exact z01) | (with_reducible exact z11) | (with_reducible exact zb01 _)
      | (with_reducible exact zn_inb (by omega) (by decide))
      | (with_reducible exact zn_ina (by omega) (by decide))
      | (with_reducible exact zn_inc (by omega) (by decide))
      | ((conv => whnf); first | (with_reducible refine And.intro ?_ ?_) | ((with_reducible intro h9); first | exact absurd h9 (by decide) | (replace h9 := nle e1 (by omega) (by omega) h9) | (replace h9 := yle e1 (by omega) (by omega) h9) | (rw [eb ‹_›] at h9) | skip) | (with_reducible refine hK _ _ _ _ (sm_un ?_)))
    all_goals try have eq1 : (fun h => !Nat.beq (S 1 h) 4) i = true := by simp only [beq_f ‹_›]; rfl
    all_goals try have eq2 : (fun h => !Nat.beq (S 1 h) 4) i = false := by simp only [beq_t ‹_›]; rfl
    all_goals first
      | ((obtain rfl : i = S 0 0 := by omega); exact hQ)
      | (simp only [nI_add]; have e := ih (by omega); rw [ct, bn_t eq1] at e; exact ⟨⟨e⟩⟩)
      | (simp only [nI_add]; have e := ih (by omega); rw [ct, bn_f eq2] at e; exact ⟨⟨e⟩⟩)
  refine sm_body [4] 40 sm_k8 (fun CT K hC hK => ?_)
  repeat' first
    | (with_reducible refine And.intro ?_ ?_)
    | ((with_reducible intro h9); first | exact absurd h9 (by decide) | skip)
    | (with_reducible exact zn_in (by omega) (by decide))
    | (with_reducible exact z01) | (with_reducible exact z11) | (with_reducible exact zb01 _)
    | (with_reducible exact zn_inb (by omega) (by decide))
    | (with_reducible exact zn_ina (by omega) (by decide))
    | (with_reducible exact zn_inc (by omega) (by decide))
    | ((conv => whnf); first | (with_reducible refine And.intro ?_ ?_) | ((with_reducible intro h9); first | exact absurd h9 (by decide) | skip) | (with_reducible refine hK _ _ _ _ (sm_un ?_)))
  exact ⟨⟨lo 0 (Nat.zero_le _)⟩⟩
set_option maxRecDepth 100000 in
set_option maxHeartbeats 4000000 in
theorem s_canFit (hD : cD S G) (hR : dR S) (hL : cL S G) : ∀ n h (f : Nat → Nat) (CT : sm_CT) (Q : sm_Q), sm_C (n + 4) CT → h + n = S 0 0 → (∀ v, v < S 0 1 → f v < 4) → Q (some (.int (sm_b (cf S n h f)))) (hp G L) → CT 17 [.ref 3, .int (nI h), .int (nI (zp (S 0 1) f))] (hp G L) Q := by
  have hD' := hD
  have hR' := hR
  obtain ⟨e1, e2, e3, e4⟩ := hD'
  obtain ⟨r1, r2, r3, r4⟩ := hR'
  intro n
  induction n with
  | zero =>
    intro h f CT Q hC hn hf hQ
    refine sm_meth hC [some (.ref 3), some (.int (nI h)), some (.int (nI (zp (S 0 1) f))), none, none] rfl rfl rfl ?_
    refine sm_body [] 60 sm_k17 (fun CT K hC hK => ?_)
    repeat' first
      | (with_reducible refine And.intro ?_ ?_)
      | ((with_reducible intro h9); first | exact absurd h9 (by decide) | ((rw [e1, nI_ltI (by omega) (by omega)] at h9; exact absurd h9 (by omega))) | skip)
      | (with_reducible exact zn_in (by omega) (by decide))
      | (with_reducible exact z01) | (with_reducible exact z11) | (with_reducible exact zb01 _)
      | (with_reducible exact zn_inb (by omega) (by decide))
      | (with_reducible exact zn_ina (by omega) (by decide))
      | (with_reducible exact zn_inc (by omega) (by decide))
      | ((conv => whnf); first | (with_reducible refine And.intro ?_ ?_) | ((with_reducible intro h9); first | exact absurd h9 (by decide) | ((rw [e1, nI_ltI (by omega) (by omega)] at h9; exact absurd h9 (by omega))) | skip) | (with_reducible refine hK _ _ _ _ (sm_un ?_)) | (with_reducible exact z11))
    exact hQ
  | succ n ihn =>
    intro h f CT Q hC hn hf hQ
    refine sm_meth hC [some (.ref 3), some (.int (nI h)), some (.int (nI (zp (S 0 1) f))), none, none] rfl rfl rfl ?_
    have lo : ∀ i, i ≤ 4 → ∀ o, (∀ q, q < i → cfq S n h f q = false) → sm_Wk (n + 4) 17 Q none 12 [some (.ref 3), some (.int (nI h)), some (.int (nI (zp (S 0 1) f))), some (.int (nI i)), o] [] (hp G L) := by
      refine up _ (fun i hi ih o hv => ?_)
      refine sm_body [12] 60 sm_k17 (fun CT K hC hK => ?_)
      have hvk : cfq S n h f i = false → ∀ q, q < i + 1 → cfq S n h f q = false := fun e q hq => if hqi : q = i then (by subst hqi; exact e) else hv q (by omega)
      have ft : ∀ v, v < S 0 1 → i < 4 → tv S v (f v) i < 4 := fun v hv2 hi4 => trn_lt (hf v hv2) hi4
      repeat' first
        | (with_reducible refine And.intro ?_ ?_)
        | ((with_reducible intro h9); first | exact absurd h9 (by decide) | (replace h9 := zle (by omega) (by omega) h9) | (replace h9 := znle (by omega) (by omega) h9) | (replace h9 := sb_f h9) | (replace h9 := sb_t h9) | skip)
        | (with_reducible exact zn_in (by omega) (by decide))
        | (with_reducible exact z01) | (with_reducible exact z11) | (with_reducible exact zb01 _)
        | (with_reducible exact zn_inb (by omega) (by decide))
        | (with_reducible exact zn_ina (by omega) (by decide))
        | (with_reducible exact zn_inc (by omega) (by decide))
        | ((conv => whnf); first | (with_reducible refine And.intro ?_ ?_) | ((with_reducible intro h9); first | exact absurd h9 (by decide) | (replace h9 := zle (by omega) (by omega) h9) | (replace h9 := znle (by omega) (by omega) h9) | (replace h9 := sb_f h9) | (replace h9 := sb_t h9) | skip) | (with_reducible refine hK _ _ _ _ (sm_un ?_)) | (with_reducible refine s_mayBlow (hC.mono (by omega)) hD hR (by omega) ‹_› ?_) | (with_reducible refine s_turnedPose (hC.mono (by omega)) hD hR hf ‹_› ?_) | (with_reducible refine s_agrees (hC.mono (by omega)) hD hR hL (fun v hv => ft v hv ‹_›) (by omega) ?_) | (simp only [nI_add]; refine ihn _ _ _ _ hC (by omega) (fun v hv => ft v hv ‹_›) ?_) | (with_reducible exact z01) | (with_reducible exact z11))
      all_goals first
        | ((obtain rfl : i = 4 := by omega); exact zq (b_f (cf_f hv)) hQ)
        | (refine zq (b_t (cf_t (q := i) ‹_› ?_)) hQ; unfold cfq; simp only [*]; rfl)
        | (have e := hvk (by unfold cfq; simp only [*]; simp); simp only [nI_add]; exact ⟨⟨ih (by omega) _ e⟩⟩)
    refine sm_body [12] 60 sm_k17 (fun CT K hC hK => ?_)
    repeat' first
      | (with_reducible refine And.intro ?_ ?_)
      | ((with_reducible intro h9); first | exact absurd h9 (by decide) | (rw [e1, nI_ltI (by omega) (by omega)] at h9; exact absurd (by omega) h9) | skip)
      | (with_reducible exact zn_in (by omega) (by decide))
      | (with_reducible exact z01) | (with_reducible exact z11) | (with_reducible exact zb01 _)
      | (with_reducible exact zn_inb (by omega) (by decide))
      | (with_reducible exact zn_ina (by omega) (by decide))
      | (with_reducible exact zn_inc (by omega) (by decide))
      | ((conv => whnf); first | (with_reducible refine And.intro ?_ ?_) | ((with_reducible intro h9); first | exact absurd h9 (by decide) | (rw [e1, nI_ltI (by omega) (by omega)] at h9; exact absurd (by omega) h9) | skip) | (with_reducible refine hK _ _ _ _ (sm_un ?_)))
    exact ⟨⟨lo 0 (Nat.zero_le _) _ (fun q hq => absurd hq (Nat.not_lt_zero _))⟩⟩
set_option maxRecDepth 100000 in
set_option maxHeartbeats 4000000 in
theorem s_hasFitting (hC : sm_C 12 CT) (hD : cD S G) (hR : dR S) (hL : cL S G) (hQ : Q (some (.int (sm_b (cf S (S 0 0) 0 (S 3))))) (hp G L)) : CT 16 [.ref 3] (hp G L) Q := by
  have r1 := hR.1
  have hs : ∀ v, v < S 0 1 → S 3 v < 4 := fun v hv => (hR.2.2.2 v hv).2.1
  refine sm_meth hC [some (.ref 3)] rfl rfl rfl ?_
  refine sm_body [] 60 sm_k16 (fun CT K hC hK => ?_)
  repeat' first
    | (with_reducible refine And.intro ?_ ?_)
    | ((with_reducible intro h9); first | exact absurd h9 (by decide) | skip)
    | (with_reducible exact zn_in (by omega) (by decide))
    | (with_reducible exact z01) | (with_reducible exact z11) | (with_reducible exact zb01 _)
    | (with_reducible exact zn_inb (by omega) (by decide))
    | (with_reducible exact zn_ina (by omega) (by decide))
    | (with_reducible exact zn_inc (by omega) (by decide))
    | ((conv => whnf); first | (with_reducible refine And.intro ?_ ?_) | ((with_reducible intro h9); first | exact absurd h9 (by decide) | skip) | (with_reducible refine hK _ _ _ _ (sm_un ?_)) | (with_reducible refine s_startPose (hC.mono (by omega)) hD hR ?_) | (with_reducible refine s_canFit hD hR hL _ _ _ _ _ (hC.mono (by omega)) (Nat.zero_add _) hs ?_))
  exact hQ
end HILL
end
section
/-! The tally: its walk over all winds. -/
def sg : Nat → (Nat → Nat) → Nat
  | 0, _ => 0
  | n + 1, g => sg n g + g n
theorem sg_congr {g g' : Nat → Nat} : ∀ {n}, (∀ i, i < n → g i = g' i) → sg n g = sg n g'
  | 0, _ => rfl
  | n + 1, h => by
    show sg n g + g n = sg n g' + g' n
    rw [sg_congr (n := n) (fun i hi => h i (by omega)), h n (by omega)]
/-- one way noted: the index i of poses -/
def nt (vn h : Nat) (f : Nat → Nat) (m i : Nat) : Nat := if i / 24 < vn ∧ i / 4 % 6 = h ∧ i % 4 = f (i / 24) then m else 0
def gt (h w m i : Nat) : Nat := if i = h * 4 + w then m else 0
def tf (S : Nat → Nat → Nat) (f : Nat → Nat) (q : Nat) : Nat → Nat := fun v => tv S v (f v) q
def okq (S : Nat → Nat → Nat) (h : Nat) (f : Nat → Nat) (q : Nat) : Bool := may S h q && ag S h (tf S f q)
def wk (S : Nat → Nat → Nat) : Nat → Nat → (Nat → Nat) → Nat
  | 0, _, _ => 1
  | n + 1, h, f => sg 4 (fun q => cond (okq S h f q) (wk S n (h + 1) (tf S f q)) 0)
def wx (S : Nat → Nat → Nat) : Nat → Nat → (Nat → Nat) → Nat → Nat
  | 0, _, _, _ => 0
  | n + 1, h, f, i => sg 4 (fun q => cond (okq S h f q) (wx S n (h + 1) (tf S f q) i + nt (S 0 1) h (tf S f q) (wk S n (h + 1) (tf S f q)) i) 0)
def wy (S : Nat → Nat → Nat) : Nat → Nat → (Nat → Nat) → Nat → Nat
  | 0, _, _, _ => 0
  | n + 1, h, f, i => sg 4 (fun q => cond (okq S h f q) (wy S n (h + 1) (tf S f q) i + gt h q (wk S n (h + 1) (tf S f q)) i) 0)
theorem cD_x {ps : List Nat} {S G G' : _} (hx : eqx ps G G') (hm : (sm_mem ps 3 || (sm_mem ps 4 || (sm_mem ps 5 || (sm_mem ps 6 || sm_mem ps 7)))) = false) (h : cD S G) : cD S G' := by
  simp only [Bool.or_eq_false_iff] at hm
  obtain ⟨h3, h4, h5, h6, h7⟩ := hm
  unfold cD
  rw [hx 3 h3, hx 4 h4, hx 5 h5, hx 6 h6, hx 7 h7]
  exact h
theorem cD_v {S G : _} (h : cD S G) : G 3 2 = nI (S 0 1) := h.2.1
theorem cD_h {S G : _} (h : cD S G) : G 3 0 = nI (S 0 0) := h.1
theorem cL_x {ps : List Nat} {S G G' : _} (hx : eqx ps G G') (hm : sm_mem ps 9 = false) (h : cL S G) : cL S G' := by
  unfold cL
  rw [hx 9 hm]
  exact h
theorem nt_step {i h m j : Nat} {f : Nat → Nat} (hf : f i < 4) (hh : h < 6) : nt (i + 1) h f m j = if j = (i * 6 + h) * 4 + f i then nt i h f m j + m else nt i h f m j := by
  unfold nt
  by_cases hji : j / 24 = i
  · rw [hji]
    by_cases hc : j = (i * 6 + h) * 4 + f i
    · rw [if_pos hc, if_pos (by omega), if_neg (by omega)]
      omega
    · rw [if_neg hc, if_neg (by omega), if_neg (by omega)]
  · have hc : ¬ j = (i * 6 + h) * 4 + f i := by omega
    rw [if_neg hc]
    by_cases hl : j / 24 < i
    · simp only [hl, show j / 24 < i + 1 by omega]
    · simp only [hl, show ¬ j / 24 < i + 1 by omega]
theorem nt_0 {h m j : Nat} {f : Nat → Nat} : nt 0 h f m j = 0 := by
  unfold nt
  rw [if_neg (by omega)]
/-- bits of the counts above 0 -/
def bq : Nat → (Nat → Nat) → Nat
  | 0, _ => 0
  | n + 1, c => bq n c + (if 0 < c n then 2 ^ n else 0)
theorem bq_lt {c : Nat → Nat} : ∀ n, bq n c < 2 ^ n
  | 0 => Nat.zero_lt_one
  | n + 1 => by
    have h1 := bq_lt (c := c) n
    show bq n c + _ < _
    rw [Nat.pow_succ]
    split <;> omega
theorem bq_or {c : Nat → Nat} (n : Nat) : bq n c ||| 2 ^ n = bq n c + 2 ^ n := by
  have h := Nat.two_pow_add_eq_or_of_lt (bq_lt (c := c) n) 1
  rw [Nat.mul_one] at h
  rw [Nat.or_comm, ← h, Nat.add_comm]
section TALLY
variable {CT : sm_CT} {G : Nat → Nat → Int32} {L : Nat → Nat → Int64} {Q : sm_Q} {S : Nat → Nat → Nat}
set_option maxRecDepth 100000 in
set_option maxHeartbeats 4000000 in
theorem s_note (hC : sm_C 1 CT) (e2 : G 3 2 = nI (S 0 1)) (hv : S 0 1 ≤ 4) {f : Nat → Nat} {h w m : Nat} (hf : ∀ v, v < S 0 1 → f v < 4) (hh : h < 6) (hw : w < 4) {X Y : Nat → Nat} (hX : ∀ i, i < 96 → G 18 i = nI (X i)) (hY : ∀ i, i < 24 → G 19 i = nI (Y i))
    (hQ : ∀ G', eqx [18, 19] G G' → (∀ i, i < 96 → G' 18 i = nI (X i + nt (S 0 1) h f m i)) → (∀ i, i < 24 → G' 19 i = nI (Y i + gt h w m i)) → Q none (hp G' L)) : CT 29 [.ref 17, .int (nI h), .int (nI w), .int (nI (zp (S 0 1) f)), .int (nI m)] (hp G L) Q := by
  have h256 := zp_256 hv hf
  refine sm_meth hC [some (.ref 17), some (.int (nI h)), some (.int (nI w)), some (.int (nI (zp (S 0 1) f))), some (.int (nI m)), none] rfl rfl rfl ?_
  have lo : ∀ i, i ≤ S 0 1 → ∀ G1, eqx [18, 19] G G1 → (∀ j, j < 96 → G1 18 j = nI (X j + nt i h f m j)) → (∀ j, j < 24 → G1 19 j = nI (Y j + gt h w m j)) → sm_Wk 0 29 Q none 18 [some (.ref 17), some (.int (nI h)), some (.int (nI w)), some (.int (nI (zp (S 0 1) f))), some (.int (nI m)), some (.int (nI i))] [] (hp G1 L) := by
    refine up _ (fun i hi ih G1 hx hX1 hY1 => ?_)
    refine sm_body [18] 80 sm_k29 (fun CT K hC hK => ?_)
    have e2' : G1 3 2 = nI (S 0 1) := by rw [hx 3 rfl]; exact e2
    have hidx : i < S 0 1 → (nI i * nI 6 + nI h) * nI 4 + (sm_shr (nI (zp (S 0 1) f)) (nI 2 * nI i) &&& nI 3) = nI ((i * 6 + h) * 4 + f i) := by
      intro hl
      rw [zn_at2 (by omega) (by omega), zp_at hf hl]
      simp only [pk_mul, nI_add]
    repeat' first
      | (with_reducible refine And.intro ?_ ?_)
      | ((with_reducible intro h9); first | exact absurd h9 (by decide) | (replace h9 := nle e2' (by omega) (by omega) h9) | (replace h9 := yle e2' (by omega) (by omega) h9) | skip)
      | (with_reducible exact zn_in (by omega) (by decide))
      | (with_reducible exact z01) | (with_reducible exact z11) | (with_reducible exact zb01 _)
      | (with_reducible exact zn_inb (by omega) (by decide))
      | (with_reducible exact zn_ina (by omega) (by decide))
      | (with_reducible exact zn_inc (by omega) (by decide))
      | ((conv => whnf); first | (with_reducible refine And.intro ?_ ?_) | ((with_reducible intro h9); first | exact absurd h9 (by decide) | (replace h9 := nle e2' (by omega) (by omega) h9) | (replace h9 := yle e2' (by omega) (by omega) h9) | skip) | (with_reducible refine hK _ _ _ _ (sm_un ?_)) | (rw [hidx ‹_›]; exact zn_in (by have := hf i ‹_›; omega) (by decide)))
    · obtain rfl : i = S 0 1 := by omega
      exact hQ G1 hx hX1 hY1
    · have hfi := hf i h9
      simp only [hidx h9, zn_clI (show (i * 6 + h) * 4 + f i < 2 ^ 31 by omega), hp_0, hp_1, hp_2, hp_3, hp_4, hp_5, hp_6, hp_7, hp_8, hp_9, hp_10, hp_11, hp_12, hp_13, hp_14, hp_15, hp_16, hp_17, hp_18, hp_19, hp_20, hp_22, hp_23, hp_24, hp_25, hp_26, hp_27, hp_28, hp_29, hp_30, hp_31, hp_32, hp_33, hp_34, hp_35, hp_36, hp_37, hp_38, hp_39, hp_40, hp_41, hp_42, hp_43, hp_44, hp_45, hp_46, hp_47, hp_48, hp_49, hf0_5, hf0_6, hf0_7, hf1_1, hf3_0, hf3_2, hf3_6, hf10_0, hf10_2, hf10_6, hf17_3, hf17_4, hf20_3, hf20_4, hf30_0, hf30_1, hf30_3, hf30_7, hf30_11, hf30_12, hf30_20, hf30_22, hf30_23, hf30_24, hf30_25, hf30_21, hf30_31, upd_su, updL_su, nI_add]
      refine ⟨⟨ih h9 _ (eqx_su 18 _ rfl hx) (fun j hj => ?_) (fun j hj => ?_)⟩⟩
      · rw [su_eq, su_if, nt_step hfi hh]
        split
        · rename_i hc
          rw [← hc, hX1 j hj, nI_add, Nat.add_assoc]
        · exact hX1 j hj
      · rw [su_ne _ _ (by decide)]
        exact hY1 j hj
  refine sm_body [18] 80 sm_k29 (fun CT K hC hK => ?_)
  repeat' first
    | (with_reducible refine And.intro ?_ ?_)
    | ((with_reducible intro h9); first | exact absurd h9 (by decide) | skip)
    | (with_reducible exact zn_in (by omega) (by decide))
    | (with_reducible exact z01) | (with_reducible exact z11) | (with_reducible exact zb01 _)
    | (with_reducible exact zn_inb (by omega) (by decide))
    | (with_reducible exact zn_ina (by omega) (by decide))
    | (with_reducible exact zn_inc (by omega) (by decide))
    | ((conv => whnf); first | (with_reducible refine And.intro ?_ ?_) | ((with_reducible intro h9); first | exact absurd h9 (by decide) | skip) | (with_reducible refine hK _ _ _ _ (sm_un ?_)))
  simp only [pk_mul, nI_add, zn_clI (show h * 4 + w < 2 ^ 31 by omega), hp_0, hp_1, hp_2, hp_3, hp_4, hp_5, hp_6, hp_7, hp_8, hp_9, hp_10, hp_11, hp_12, hp_13, hp_14, hp_15, hp_16, hp_17, hp_18, hp_19, hp_20, hp_22, hp_23, hp_24, hp_25, hp_26, hp_27, hp_28, hp_29, hp_30, hp_31, hp_32, hp_33, hp_34, hp_35, hp_36, hp_37, hp_38, hp_39, hp_40, hp_41, hp_42, hp_43, hp_44, hp_45, hp_46, hp_47, hp_48, hp_49, hf0_5, hf0_6, hf0_7, hf1_1, hf3_0, hf3_2, hf3_6, hf10_0, hf10_2, hf10_6, hf17_3, hf17_4, hf20_3, hf20_4, hf30_0, hf30_1, hf30_3, hf30_7, hf30_11, hf30_12, hf30_20, hf30_22, hf30_23, hf30_24, hf30_25, hf30_21, hf30_31, upd_su, updL_su]
  refine ⟨⟨lo 0 (Nat.zero_le _) _ (eqx_su 19 _ rfl eqx_rfl) (fun j hj => ?_) (fun j hj => ?_)⟩⟩
  · rw [su_ne _ _ (by decide), nt_0]
    exact hX j hj
  · rw [su_eq, su_if, gt]
    split
    · rename_i hc
      rw [← hc, hY j hj, nI_add]
    · exact hY j hj
set_option maxRecDepth 100000 in
set_option maxHeartbeats 4000000 in
theorem s_walk (hR : dR S) : ∀ n h (f X Y : Nat → Nat) (G : Nat → Nat → Int32) (CT : sm_CT) (Q : sm_Q), sm_C (n + 4) CT → cD S G → cL S G → h + n = S 0 0 → (∀ v, v < S 0 1 → f v < 4) → (∀ i, i < 96 → G 18 i = nI (X i)) → (∀ i, i < 24 → G 19 i = nI (Y i)) →
    (∀ G', eqx [18, 19] G G' → (∀ i, i < 96 → G' 18 i = nI (X i + wx S n h f i)) → (∀ i, i < 24 → G' 19 i = nI (Y i + wy S n h f i)) → Q (some (.int (nI (wk S n h f)))) (hp G' L)) → CT 28 [.ref 17, .int (nI h), .int (nI (zp (S 0 1) f))] (hp G L) Q := by
  have hR' := hR
  obtain ⟨r1, r2, r3, r4⟩ := hR'
  intro n
  induction n with
  | zero =>
    intro h f X Y G CT Q hC hD hL hn hf hX hY hQ
    obtain ⟨e1, e2, e3, e4⟩ := hD
    refine sm_meth hC [some (.ref 17), some (.int (nI h)), some (.int (nI (zp (S 0 1) f))), none, none, none, none] rfl rfl rfl ?_
    refine sm_body [] 60 sm_k28 (fun CT K hC hK => ?_)
    repeat' first
      | (with_reducible refine And.intro ?_ ?_)
      | ((with_reducible intro h9); first | exact absurd h9 (by decide) | ((rw [e1, nI_ltI (by omega) (by omega)] at h9; exact absurd h9 (by omega))) | skip)
      | (with_reducible exact zn_in (by omega) (by decide))
      | (with_reducible exact z01) | (with_reducible exact z11) | (with_reducible exact zb01 _)
      | (with_reducible exact zn_inb (by omega) (by decide))
      | (with_reducible exact zn_ina (by omega) (by decide))
      | (with_reducible exact zn_inc (by omega) (by decide))
      | ((conv => whnf); first | (with_reducible refine And.intro ?_ ?_) | ((with_reducible intro h9); first | exact absurd h9 (by decide) | ((rw [e1, nI_ltI (by omega) (by omega)] at h9; exact absurd h9 (by omega))) | skip) | (with_reducible refine hK _ _ _ _ (sm_un ?_)))
    exact hQ G eqx_rfl hX hY
  | succ n ihn =>
    intro h f X Y G CT Q hC hD hL hn hf hX hY hQ
    have e1 := hD.1
    refine sm_meth hC [some (.ref 17), some (.int (nI h)), some (.int (nI (zp (S 0 1) f))), none, none, none, none] rfl rfl rfl ?_
    have lo : ∀ i, i ≤ 4 → ∀ o5 o6 G1, eqx [18, 19] G G1 →
        (∀ j, j < 96 → G1 18 j = nI (X j + sg i (fun q => cond (okq S h f q) (wx S n (h + 1) (tf S f q) j + nt (S 0 1) h (tf S f q) (wk S n (h + 1) (tf S f q)) j) 0))) →
        (∀ j, j < 24 → G1 19 j = nI (Y j + sg i (fun q => cond (okq S h f q) (wy S n (h + 1) (tf S f q) j + gt h q (wk S n (h + 1) (tf S f q)) j) 0))) →
        sm_Wk (n + 4) 28 Q none 18 [some (.ref 17), some (.int (nI h)), some (.int (nI (zp (S 0 1) f))), some (.int (nI (sg i (fun q => cond (okq S h f q) (wk S n (h + 1) (tf S f q)) 0)))), some (.int (nI i)), o5, o6] [] (hp G1 L) := by
      refine up _ (fun i hi ih o5 o6 G1 hx hX1 hY1 => ?_)
      have hD1 := cD_x hx rfl hD
      have hL1 := cL_x hx rfl hL
      refine sm_body [18] 80 sm_k28 (fun CT K hC hK => ?_)
      have ft : ∀ v, v < S 0 1 → i < 4 → tv S v (f v) i < 4 := fun v hv2 hi4 => trn_lt (hf v hv2) hi4
      repeat' first
        | (with_reducible refine And.intro ?_ ?_)
        | ((with_reducible intro h9); first | exact absurd h9 (by decide) | (replace h9 := zle (by omega) (by omega) h9) | (replace h9 := znle (by omega) (by omega) h9) | (replace h9 := sb_f h9) | (replace h9 := sb_t h9) | skip)
        | (with_reducible exact zn_in (by omega) (by decide))
        | (with_reducible exact z01) | (with_reducible exact z11) | (with_reducible exact zb01 _)
        | (with_reducible exact zn_inb (by omega) (by decide))
        | (with_reducible exact zn_ina (by omega) (by decide))
        | (with_reducible exact zn_inc (by omega) (by decide))
        | ((conv => whnf); first | (with_reducible refine And.intro ?_ ?_) | ((with_reducible intro h9); first | exact absurd h9 (by decide) | (replace h9 := zle (by omega) (by omega) h9) | (replace h9 := znle (by omega) (by omega) h9) | (replace h9 := sb_f h9) | (replace h9 := sb_t h9) | skip) | (with_reducible refine hK _ _ _ _ (sm_un ?_)) | (with_reducible refine s_mayBlow (hC.mono (by omega)) hD1 hR (by omega) ‹_› ?_) | (with_reducible refine s_turnedPose (hC.mono (by omega)) hD1 hR hf ‹_› ?_) | (with_reducible refine s_agrees (hC.mono (by omega)) hD1 hR hL1 (fun v hv => ft v hv ‹_›) (by omega) ?_) | (simp only [nI_add]; refine ihn _ _ _ _ _ _ _ hC hD1 hL1 (by omega) (fun v hv => ft v hv ‹_›) hX1 hY1 (fun G2 hx2 hX2 hY2 => ?_)) | (with_reducible refine s_note (hC.mono (by omega)) (cD_v (cD_x hx2 rfl hD1)) r2 (fun v hv => ft v hv ‹_›) (by omega) (by omega) hX2 hY2 (fun G3 hx3 hX3 hY3 => ?_)))
      · obtain rfl : i = 4 := by omega
        exact hQ G1 hx hX1 hY1
      · have ek : okq S h f i = false := by unfold okq tf; rw [‹may S h i = true›, h9]; rfl
        have e := ih (by omega) (some (.int (nI (zp (S 0 1) (fun v => tv S v (f v) i))))) o6 G1 hx (fun j hj => by rw [hX1 j hj, sg, ek]; rfl) (fun j hj => by rw [hY1 j hj, sg, ek]; rfl)
        rw [sg, ek] at e
        simp only [nI_add]; exact ⟨⟨e⟩⟩
      · have ek : okq S h f i = true := by unfold okq tf; rw [‹may S h i = true›, h9]; rfl
        have e := ih (by omega) (some (.int (nI (zp (S 0 1) (fun v => tv S v (f v) i))))) (some (.int (nI (wk S n (h + 1) (fun v => tv S v (f v) i))))) G3 (eqx_trans (eqx_trans hx hx2) hx3) (fun j hj => by rw [hX3 j hj, sg, ek, Nat.add_assoc, Nat.add_assoc]; rfl) (fun j hj => by rw [hY3 j hj, sg, ek, Nat.add_assoc, Nat.add_assoc]; rfl)
        rw [sg, ek] at e
        simp only [nI_add]; exact ⟨⟨e⟩⟩
      · have ek : okq S h f i = false := by unfold okq; rw [h9]; rfl
        have e := ih (by omega) o5 o6 G1 hx (fun j hj => by rw [hX1 j hj, sg, ek]; rfl) (fun j hj => by rw [hY1 j hj, sg, ek]; rfl)
        rw [sg, ek] at e
        simp only [nI_add]; exact ⟨⟨e⟩⟩
    refine sm_body [18] 60 sm_k28 (fun CT K hC hK => ?_)
    repeat' first
      | (with_reducible refine And.intro ?_ ?_)
      | ((with_reducible intro h9); first | exact absurd h9 (by decide) | (rw [e1, nI_ltI (by omega) (by omega)] at h9; exact absurd (by omega) h9) | skip)
      | (with_reducible exact zn_in (by omega) (by decide))
      | (with_reducible exact z01) | (with_reducible exact z11) | (with_reducible exact zb01 _)
      | (with_reducible exact zn_inb (by omega) (by decide))
      | (with_reducible exact zn_ina (by omega) (by decide))
      | (with_reducible exact zn_inc (by omega) (by decide))
      | ((conv => whnf); first | (with_reducible refine And.intro ?_ ?_) | ((with_reducible intro h9); first | exact absurd h9 (by decide) | (rw [e1, nI_ltI (by omega) (by omega)] at h9; exact absurd (by omega) h9) | skip) | (with_reducible refine hK _ _ _ _ (sm_un ?_)))
    refine ⟨⟨lo 0 (Nat.zero_le _) _ _ G eqx_rfl (fun j hj => ?_) (fun j hj => ?_)⟩⟩
    · exact hX j hj
    · exact hY j hj
/-- the tally as it must be when it isn't stale -/
def tl (S : Nat → Nat → Nat) (G : Nat → Nat → Int32) : Prop := G 17 3 = nI (wk S (S 0 0) 0 (S 3)) ∧ (∀ i, i < 96 → G 18 i = nI (wx S (S 0 0) 0 (S 3) i)) ∧ (∀ i, i < 24 → G 19 i = nI (wy S (S 0 0) 0 (S 3) i))
set_option maxRecDepth 100000 in
set_option maxHeartbeats 4000000 in
theorem s_refresh (hC : sm_C 12 CT) (hD : cD S G) (hR : dR S) (hL : cL S G) (ht : G 17 4 = nI 0 → tl S G) (hQ : ∀ G', eqx [17, 18, 19] G G' → tl S G' → G' 17 4 = nI 0 → Q none (hp G' L)) : CT 27 [.ref 17] (hp G L) Q := by
  have r1 := hR.1
  have hs : ∀ v, v < S 0 1 → S 3 v < 4 := fun v hv => (hR.2.2.2 v hv).2.1
  refine sm_meth hC [some (.ref 17), none] rfl rfl rfl ?_
  have lo2 : ∀ i, i ≤ 24 → ∀ G1, eqx [17, 18, 19] G G1 → (∀ j, j < 96 → G1 18 j = nI 0) → (∀ j, j < i → G1 19 j = nI 0) → sm_Wk 11 27 Q none 34 [some (.ref 17), some (.int (nI i))] [] (hp G1 L) := by
    refine up _ (fun i hi ih G1 hx hX1 hY1 => ?_)
    have hD1 := cD_x hx rfl hD
    have hL1 := cL_x hx rfl hL
    refine sm_body [34] 80 sm_k27 (fun CT K hC hK => ?_)
    have hX0 : ∀ j, j < 96 → G1 18 j = nI ((fun _ => 0) j) := hX1
    repeat' first
      | (with_reducible refine And.intro ?_ ?_)
      | ((with_reducible intro h9); first | exact absurd h9 (by decide) | (replace h9 := zle (a := 24) (by omega) (by omega) h9) | (replace h9 := znle (a := 24) (by omega) (by omega) h9) | skip)
      | (with_reducible exact zn_in (by omega) (by decide))
      | (with_reducible exact z01) | (with_reducible exact z11) | (with_reducible exact zb01 _)
      | (with_reducible exact zn_inb (by omega) (by decide))
      | (with_reducible exact zn_ina (by omega) (by decide))
      | (with_reducible exact zn_inc (by omega) (by decide))
      | ((conv => whnf); first | (with_reducible refine And.intro ?_ ?_) | ((with_reducible intro h9); first | exact absurd h9 (by decide) | (replace h9 := zle (a := 24) (by omega) (by omega) h9) | (replace h9 := znle (a := 24) (by omega) (by omega) h9) | skip) | (with_reducible refine hK _ _ _ _ (sm_un ?_)) | (with_reducible refine s_startPose (hC.mono (by omega)) hD1 hR ?_) | (with_reducible refine s_walk hR _ _ _ (fun _ => 0) (fun _ => 0) _ _ _ (hC.mono (by omega)) hD1 hL1 (Nat.zero_add _) hs hX0 (fun j hj => hY1 j (by omega)) (fun G2 hx2 hX2 hY2 => ?_)))
    all_goals conv => whnf
    · simp only [hp_0, hp_1, hp_2, hp_3, hp_4, hp_5, hp_6, hp_7, hp_8, hp_9, hp_10, hp_11, hp_12, hp_13, hp_14, hp_15, hp_16, hp_17, hp_18, hp_19, hp_20, hp_22, hp_23, hp_24, hp_25, hp_26, hp_27, hp_28, hp_29, hp_30, hp_31, hp_32, hp_33, hp_34, hp_35, hp_36, hp_37, hp_38, hp_39, hp_40, hp_41, hp_42, hp_43, hp_44, hp_45, hp_46, hp_47, hp_48, hp_49, hf0_5, hf0_6, hf0_7, hf1_1, hf3_0, hf3_2, hf3_6, hf10_0, hf10_2, hf10_6, hf17_3, hf17_4, hf20_3, hf20_4, hf30_0, hf30_1, hf30_3, hf30_7, hf30_11, hf30_12, hf30_20, hf30_22, hf30_23, hf30_24, hf30_25, hf30_21, hf30_31, upd_su, updL_su]
      refine hQ _ (eqx_su 17 _ rfl (eqx_su 17 _ rfl (eqx_trans hx (eqx_sub rfl hx2)))) ⟨?_, fun j hj => ?_, fun j hj => ?_⟩ rfl
      · rfl
      · rw [su_ne _ _ (by decide), su_ne _ _ (by decide), hX2 j hj, Nat.zero_add]
      · rw [su_ne _ _ (by decide), su_ne _ _ (by decide), hY2 j hj, Nat.zero_add]
    · simp only [hp_0, hp_1, hp_2, hp_3, hp_4, hp_5, hp_6, hp_7, hp_8, hp_9, hp_10, hp_11, hp_12, hp_13, hp_14, hp_15, hp_16, hp_17, hp_18, hp_19, hp_20, hp_22, hp_23, hp_24, hp_25, hp_26, hp_27, hp_28, hp_29, hp_30, hp_31, hp_32, hp_33, hp_34, hp_35, hp_36, hp_37, hp_38, hp_39, hp_40, hp_41, hp_42, hp_43, hp_44, hp_45, hp_46, hp_47, hp_48, hp_49, hf0_5, hf0_6, hf0_7, hf1_1, hf3_0, hf3_2, hf3_6, hf10_0, hf10_2, hf10_6, hf17_3, hf17_4, hf20_3, hf20_4, hf30_0, hf30_1, hf30_3, hf30_7, hf30_11, hf30_12, hf30_20, hf30_22, hf30_23, hf30_24, hf30_25, hf30_21, hf30_31, upd_su, updL_su, nI_add, zn_clI (show i < 2 ^ 31 by omega)]
      refine ⟨⟨ih (by omega) _ (eqx_su 19 _ rfl hx) (fun j hj => ?_) (fun j hj => ?_)⟩⟩
      · rw [su_ne _ _ (by decide)]; exact hX1 j hj
      · rw [su_eq, su_if]
        split
        · rfl
        · exact hY1 j (by omega)
  have lo : ∀ i, i ≤ 96 → ∀ G1, eqx [17, 18, 19] G G1 → (∀ j, j < i → G1 18 j = nI 0) → sm_Wk 11 27 Q none 10 [some (.ref 17), some (.int (nI i))] [] (hp G1 L) := by
    refine up _ (fun i hi ih G1 hx hX1 => ?_)
    refine sm_body [10, 34] 80 sm_k27 (fun CT K hC hK => ?_)
    repeat' first
      | (with_reducible refine And.intro ?_ ?_)
      | ((with_reducible intro h9); first | exact absurd h9 (by decide) | (replace h9 := zle (a := 96) (by omega) (by omega) h9) | (replace h9 := znle (a := 96) (by omega) (by omega) h9) | skip)
      | (with_reducible exact zn_in (by omega) (by decide))
      | (with_reducible exact z01) | (with_reducible exact z11) | (with_reducible exact zb01 _)
      | (with_reducible exact zn_inb (by omega) (by decide))
      | (with_reducible exact zn_ina (by omega) (by decide))
      | (with_reducible exact zn_inc (by omega) (by decide))
      | ((conv => whnf); first | (with_reducible refine And.intro ?_ ?_) | ((with_reducible intro h9); first | exact absurd h9 (by decide) | (replace h9 := zle (a := 96) (by omega) (by omega) h9) | (replace h9 := znle (a := 96) (by omega) (by omega) h9) | skip) | (with_reducible refine hK _ _ _ _ (sm_un ?_)))
    · exact ⟨⟨lo2 0 (Nat.zero_le _) G1 hx (fun j hj => hX1 j (by omega)) (fun j hj => absurd hj (Nat.not_lt_zero _))⟩⟩
    · simp only [hp_0, hp_1, hp_2, hp_3, hp_4, hp_5, hp_6, hp_7, hp_8, hp_9, hp_10, hp_11, hp_12, hp_13, hp_14, hp_15, hp_16, hp_17, hp_18, hp_19, hp_20, hp_22, hp_23, hp_24, hp_25, hp_26, hp_27, hp_28, hp_29, hp_30, hp_31, hp_32, hp_33, hp_34, hp_35, hp_36, hp_37, hp_38, hp_39, hp_40, hp_41, hp_42, hp_43, hp_44, hp_45, hp_46, hp_47, hp_48, hp_49, hf0_5, hf0_6, hf0_7, hf1_1, hf3_0, hf3_2, hf3_6, hf10_0, hf10_2, hf10_6, hf17_3, hf17_4, hf20_3, hf20_4, hf30_0, hf30_1, hf30_3, hf30_7, hf30_11, hf30_12, hf30_20, hf30_22, hf30_23, hf30_24, hf30_25, hf30_21, hf30_31, upd_su, updL_su, nI_add, zn_clI (show i < 2 ^ 31 by omega)]
      refine ⟨⟨ih (by omega) _ (eqx_su 18 _ rfl hx) (fun j hj => ?_)⟩⟩
      rw [su_eq, su_if]
      split
      · rfl
      · exact hX1 j (by omega)
  refine sm_body [10] 60 sm_k27 (fun CT K hC hK => ?_)
  repeat' first
    | (with_reducible refine And.intro ?_ ?_)
    | ((with_reducible intro h9); first | exact absurd h9 (by decide) | skip)
    | (with_reducible exact zn_in (by omega) (by decide))
    | (with_reducible exact z01) | (with_reducible exact z11) | (with_reducible exact zb01 _)
    | (with_reducible exact zn_inb (by omega) (by decide))
    | (with_reducible exact zn_ina (by omega) (by decide))
    | (with_reducible exact zn_inc (by omega) (by decide))
    | ((conv => whnf); first | (with_reducible refine And.intro ?_ ?_) | ((with_reducible intro h9); first | exact absurd h9 (by decide) | skip) | (with_reducible refine hK _ _ _ _ (sm_un ?_)))
  · exact ⟨⟨lo 0 (Nat.zero_le _) G eqx_rfl (fun j hj => absurd hj (Nat.not_lt_zero _))⟩⟩
  · exact hQ G eqx_rfl (ht h9) h9
set_option maxRecDepth 100000 in
set_option maxHeartbeats 4000000 in
theorem s_bitsOf (hC : sm_C 1 CT) {p : Nat} {c : Nat → Nat} {n : Nat} (hp2 : (p = 18 ∧ n = 96) ∨ (p = 19 ∧ n = 24)) {k : Nat} (hk : k + 4 ≤ n) (hc : ∀ q, q < 4 → c q < 2 ^ 31) (hG : ∀ q, q < 4 → G p (k + q) = nI (c q)) (hQ : Q (some (.int (nI (bq 4 c)))) (hp G L)) : CT 32 [.ref p, .int (nI k)] (hp G L) Q := by
  refine sm_meth hC [some (.ref p), some (.int (nI k)), none, none] rfl rfl rfl ?_
  have lo : ∀ i, i ≤ 4 → sm_Wk 0 32 Q none 4 [some (.ref p), some (.int (nI k)), some (.int (nI (bq i c))), some (.int (nI i))] [] (hp G L) := by
    refine up _ (fun i hi ih => ?_)
    have e0 : (nI k + nI i).toNatClampNeg = k + i := by rw [nI_add]; exact nI_clamp (by omega)
    have eg : i < 4 → (G p (k + i) ≤ nI 0 ↔ ¬ 0 < c i) := fun hi4 => by rw [hG i hi4, nI_leI (hc i hi4) (by decide)]; omega
    have eo : bq i c ||| 1 * 2 ^ i = bq i c + 2 ^ i := by rw [Nat.one_mul]; exact bq_or i
    refine sm_body [4] 80 sm_k32 (fun CT K hC hK => ?_)
    rcases hp2 with ⟨rfl, rfl⟩ | ⟨rfl, rfl⟩
    all_goals
      repeat' first
        | (with_reducible refine And.intro ?_ ?_)
        | ((with_reducible intro h9); first | exact absurd h9 (by decide) | (replace h9 := zle (by omega) (by omega) h9) | (replace h9 := znle (by omega) (by omega) h9) | ((rw [e0, eg ‹_›] at h9)) | skip)
        | (with_reducible exact zn_in (by omega) (by decide))
        | (with_reducible exact z01) | (with_reducible exact z11) | (with_reducible exact zb01 _)
        | (with_reducible exact zn_inb (by omega) (by decide))
        | (with_reducible exact zn_ina (by omega) (by decide))
        | (with_reducible exact zn_inc (by omega) (by decide))
        | ((conv => whnf); first | (with_reducible refine And.intro ?_ ?_) | ((with_reducible intro h9); first | exact absurd h9 (by decide) | (replace h9 := zle (by omega) (by omega) h9) | (replace h9 := znle (by omega) (by omega) h9) | ((rw [e0, eg ‹_›] at h9)) | skip) | (with_reducible refine hK _ _ _ _ (sm_un ?_)))
      · obtain rfl : i = 4 := by omega
        exact hQ
      · have e := ih (by omega)
        rw [bq, if_neg h9] at e
        simp only [nI_add]; exact ⟨⟨e⟩⟩
      · have e := ih (by omega)
        rw [bq, if_pos (Decidable.not_not.mp h9)] at e
        simp only [nI_add, zn_shl (show i < 32 by omega), zn_or, eo]
        exact ⟨⟨e⟩⟩
  refine sm_body [4] 80 sm_k32 (fun CT K hC hK => ?_)
  repeat' first
    | (with_reducible refine And.intro ?_ ?_)
    | ((with_reducible intro h9); first | exact absurd h9 (by decide) | skip)
    | (with_reducible exact zn_in (by omega) (by decide))
    | (with_reducible exact z01) | (with_reducible exact z11) | (with_reducible exact zb01 _)
    | (with_reducible exact zn_inb (by omega) (by decide))
    | (with_reducible exact zn_ina (by omega) (by decide))
    | (with_reducible exact zn_inc (by omega) (by decide))
    | ((conv => whnf); first | (with_reducible refine And.intro ?_ ?_) | ((with_reducible intro h9); first | exact absurd h9 (by decide) | skip) | (with_reducible refine hK _ _ _ _ (sm_un ?_)))
  exact ⟨⟨lo 0 (Nat.zero_le _)⟩⟩
/-- the largest -/
def mq : Nat → (Nat → Nat) → Nat
  | 0, _ => 0
  | n + 1, c => max (mq n c) (c n)
theorem mq_lt {c : Nat → Nat} {M : Nat} (hM : 0 < M) : ∀ n, (∀ q, q < n → c q < M) → mq n c < M
  | 0, _ => hM
  | n + 1, h => by
    have h1 := mq_lt hM n (fun q hq => h q (by omega))
    have h2 := h n (by omega)
    show max (mq n c) (c n) < M
    omega
theorem sm_mmax {d : Nat} {sc : Option (Nat × (Nat → Int32))} {ls : sm_L} {a b : Int32} {h : sm_H} (hk : sm_W 33 d Q sc 35 ls [.int (if a < b then b else a)] h) : sm_W 33 d Q sc 32 ls [.int b, .int a] h := by
  intro p l e R s m args below meth c A H0 D G ad cells slots Z C H locs lsA hP hD hS hL
  have go := hk p l e R s m args below meth c A H0 D G ad cells slots Z C H locs lsA hP hD hS hL
  obtain ⟨hx, hb, hml, hown, hts, hK, hA, hRm, hRc, hret, hscr⟩ := C
  have hsz : lsA.size = sm_max 33 := by obtain ⟨l0, h1, -⟩ := hL; exact h1.1
  exact va_mmax (x := a) (y := b) hx hb (hml.trans hsz.symm) hown (hts _ (sm_has_in (z := 370) (by decide +kernel))) (hts _ (sm_has_in (z := 371) (by decide +kernel))) (hts _ (sm_has_in (z := 52) (by decide +kernel))) (hts _ (sm_has_in (z := 372) (by decide +kernel))) (by have := hRm.1; omega) (by have := hRm.2; simp; omega) hRc.1 hRc.2 (index := 64) (by decide +kernel) go
theorem sm_mmaxk {k : Nat} {sc : Option (Nat × (Nat → Int32))} {ls : sm_L} {a b : Nat} {h : sm_H} (ha : a < 2 ^ 31) (hb : b < 2 ^ 31) (hk : sm_Wk k 33 Q sc 35 ls [.int (nI (max a b))] h) : sm_Wk k 33 Q sc 32 ls [.int (nI b), .int (nI a)] h := by
  intro d hd
  refine sm_mmax ?_
  have e : (if nI a < nI b then nI b else nI a) = nI (max a b) := by
    by_cases hl : a < b
    · rw [if_pos ((nI_ltI ha hb).mpr hl), Nat.max_eq_right (Nat.le_of_lt hl)]
    · rw [if_neg (fun h => hl ((nI_ltI ha hb).mp h)), Nat.max_eq_left (by omega)]
  rw [e]
  exact hk d hd
set_option maxRecDepth 100000 in
set_option maxHeartbeats 4000000 in
theorem s_worst (hC : sm_C 2 CT) {v h : Nat} (hv : v < 4) (hh : h < 6) {c : Nat → Nat} (hc : ∀ q, q < 4 → c q < 2 ^ 31) (hG : ∀ q, q < 4 → G 18 ((v * 6 + h) * 4 + q) = nI (c q)) (hQ : Q (some (.int (nI (mq 4 c)))) (hp G L)) : CT 33 [.ref 17, .int (nI v), .int (nI h)] (hp G L) Q := by
  refine sm_meth hC [some (.ref 17), some (.int (nI v)), some (.int (nI h)), none, none, none] rfl rfl rfl ?_
  have lo : ∀ i, i ≤ 4 → sm_Wk 1 33 Q none 15 [some (.ref 17), some (.int (nI v)), some (.int (nI h)), some (.int (nI ((v * 6 + h) * 4))), some (.int (nI (mq i c))), some (.int (nI i))] [] (hp G L) := by
    refine up _ (fun i hi ih => ?_)
    have e0 : (nI ((v * 6 + h) * 4) + nI i).toNatClampNeg = (v * 6 + h) * 4 + i := by rw [nI_add]; exact nI_clamp (by omega)
    refine sm_body [15, 32] 80 sm_k33 (fun CT K hC hK => ?_)
    repeat' first
      | (with_reducible refine And.intro ?_ ?_)
      | ((with_reducible intro h9); first | exact absurd h9 (by decide) | (replace h9 := zle (by omega) (by omega) h9) | (replace h9 := znle (by omega) (by omega) h9) | skip)
      | (with_reducible exact zn_in (by omega) (by decide))
      | (with_reducible exact z01) | (with_reducible exact z11) | (with_reducible exact zb01 _)
      | (with_reducible exact zn_inb (by omega) (by decide))
      | (with_reducible exact zn_ina (by omega) (by decide))
      | (with_reducible exact zn_inc (by omega) (by decide))
      | ((conv => whnf); first | (with_reducible refine And.intro ?_ ?_) | ((with_reducible intro h9); first | exact absurd h9 (by decide) | (replace h9 := zle (by omega) (by omega) h9) | (replace h9 := znle (by omega) (by omega) h9) | skip) | (with_reducible refine hK _ _ _ _ (sm_un ?_)))
    · obtain rfl : i = 4 := by omega
      exact hQ
    · simp only [e0, hG i h9]
      refine ⟨⟨sm_mmaxk (mq_lt (by decide) i (fun q hq => hc q (by omega))) (hc i h9) ?_⟩⟩
      refine sm_body [15] 80 sm_k33 (fun CT K hC hK => ?_)
      repeat' first
        | (with_reducible refine And.intro ?_ ?_)
        | ((with_reducible intro h9); first | exact absurd h9 (by decide) | skip)
        | (with_reducible exact zn_in (by omega) (by decide))
        | (with_reducible exact z01) | (with_reducible exact z11) | (with_reducible exact zb01 _)
        | (with_reducible exact zn_inb (by omega) (by decide))
        | (with_reducible exact zn_ina (by omega) (by decide))
        | (with_reducible exact zn_inc (by omega) (by decide))
        | ((conv => whnf); first | (with_reducible refine And.intro ?_ ?_) | ((with_reducible intro h9); first | exact absurd h9 (by decide) | skip) | (with_reducible refine hK _ _ _ _ (sm_un ?_)))
      simp only [nI_add]; exact ⟨⟨ih h9⟩⟩
  refine sm_body [15] 80 sm_k33 (fun CT K hC hK => ?_)
  repeat' first
    | (with_reducible refine And.intro ?_ ?_)
    | ((with_reducible intro h9); first | exact absurd h9 (by decide) | skip)
    | (with_reducible exact zn_in (by omega) (by decide))
    | (with_reducible exact z01) | (with_reducible exact z11) | (with_reducible exact zb01 _)
    | (with_reducible exact zn_inb (by omega) (by decide))
    | (with_reducible exact zn_ina (by omega) (by decide))
    | (with_reducible exact zn_inc (by omega) (by decide))
    | ((conv => whnf); first | (with_reducible refine And.intro ?_ ?_) | ((with_reducible intro h9); first | exact absurd h9 (by decide) | skip) | (with_reducible refine hK _ _ _ _ (sm_un ?_)))
  simp only [pk_mul, nI_add]
  exact ⟨⟨lo 0 (Nat.zero_le _)⟩⟩
set_option maxRecDepth 100000 in
set_option maxHeartbeats 4000000 in
theorem s_pointed (hC : sm_C 2 CT) {v h : Nat} (hv : v < 4) (hh : h < 6) {c : Nat → Nat} (hc : ∀ q, q < 4 → c q < 2 ^ 31) (hG : ∀ q, q < 4 → G 18 ((v * 6 + h) * 4 + q) = nI (c q)) (hQ : Q (some (.int (nI (bq 4 c)))) (hp G L)) : CT 30 [.ref 17, .int (nI v), .int (nI h)] (hp G L) Q := by
  refine sm_meth hC [some (.ref 17), some (.int (nI v)), some (.int (nI h))] rfl rfl rfl ?_
  refine sm_body [] 80 sm_k30 (fun CT K hC hK => ?_)
  repeat' first
    | (with_reducible refine And.intro ?_ ?_)
    | ((with_reducible intro h9); first | exact absurd h9 (by decide) | skip)
    | (with_reducible exact zn_in (by omega) (by decide))
    | (with_reducible exact z01) | (with_reducible exact z11) | (with_reducible exact zb01 _)
    | (with_reducible exact zn_inb (by omega) (by decide))
    | (with_reducible exact zn_ina (by omega) (by decide))
    | (with_reducible exact zn_inc (by omega) (by decide))
    | ((conv => whnf); first | (with_reducible refine And.intro ?_ ?_) | ((with_reducible intro h9); first | exact absurd h9 (by decide) | skip) | (with_reducible refine hK _ _ _ _ (sm_un ?_)) | (simp only [pk_mul, nI_add]; refine s_bitsOf (hC.mono (by omega)) (Or.inl ⟨rfl, rfl⟩) (by omega) hc hG ?_))
  exact hQ
set_option maxRecDepth 100000 in
set_option maxHeartbeats 4000000 in
theorem s_blown (hC : sm_C 2 CT) {h : Nat} (hh : h < 6) {c : Nat → Nat} (hc : ∀ q, q < 4 → c q < 2 ^ 31) (hG : ∀ q, q < 4 → G 19 (h * 4 + q) = nI (c q)) (hQ : Q (some (.int (nI (bq 4 c)))) (hp G L)) : CT 31 [.ref 17, .int (nI h)] (hp G L) Q := by
  refine sm_meth hC [some (.ref 17), some (.int (nI h))] rfl rfl rfl ?_
  refine sm_body [] 80 sm_k31 (fun CT K hC hK => ?_)
  repeat' first
    | (with_reducible refine And.intro ?_ ?_)
    | ((with_reducible intro h9); first | exact absurd h9 (by decide) | skip)
    | (with_reducible exact zn_in (by omega) (by decide))
    | (with_reducible exact z01) | (with_reducible exact z11) | (with_reducible exact zb01 _)
    | (with_reducible exact zn_inb (by omega) (by decide))
    | (with_reducible exact zn_ina (by omega) (by decide))
    | (with_reducible exact zn_inc (by omega) (by decide))
    | ((conv => whnf); first | (with_reducible refine And.intro ?_ ?_) | ((with_reducible intro h9); first | exact absurd h9 (by decide) | skip) | (with_reducible refine hK _ _ _ _ (sm_un ?_)) | (simp only [pk_mul, nI_add]; refine s_bitsOf (hC.mono (by omega)) (Or.inr ⟨rfl, rfl⟩) (by omega) hc hG ?_))
  exact hQ
end TALLY
end
section
/-! Counting winds: by a walk, by codes. -/
def fh (S : Nat → Nat → Nat) : Nat → Nat → (Nat → Nat) → Bool
  | 0, _, _ => true
  | n + 1, h, w => ag S h (fun v => ps S w v (h + 1)) && fh S n (h + 1) w
theorem s4_sg (g : Nat → Nat) : s4 g = sg 4 g := by
  simp [s4, sg]
theorem cn_congr {S : Nat → Nat → Nat} {P P' : (Nat → Nat) → Bool} : ∀ {n h : Nat} {w : Nat → Nat}, (∀ w', (∀ i, i < h → w' i = w i) → P w' = P' w') → cn S n h w P = cn S n h w P'
  | 0, h, w, e => by
    show bn (P w) = bn (P' w)
    rw [e w (fun _ _ => rfl)]
  | n + 1, h, w, e => by
    have : ∀ q, cn S n (h + 1) (su w h q) P = cn S n (h + 1) (su w h q) P' := fun q => cn_congr (fun w' hw => e w' (fun i hi => by rw [hw i (by omega), su_ne _ _ (by omega)]))
    simp only [cn, this]
theorem cn_false {S : Nat → Nat → Nat} : ∀ {n h : Nat} {w : Nat → Nat}, cn S n h w (fun _ => false) = 0
  | 0, h, w => rfl
  | n + 1, h, w => by
    have : ∀ q, cn S n (h + 1) (su w h q) (fun _ => false) = 0 := fun q => cn_false
    simp only [cn, this, s4]
    cases may S h 0 <;> cases may S h 1 <;> cases may S h 2 <;> cases may S h 3 <;> rfl
theorem cn_and {S : Nat → Nat → Nat} {P : (Nat → Nat) → Bool} {A : (Nat → Nat) → Bool} {n h : Nat} {w : Nat → Nat} (hA : ∀ w', (∀ i, i < h → w' i = w i) → A w' = A w) : cn S n h w (fun w' => A w' && P w') = cond (A w) (cn S n h w P) 0 := by
  have e : cn S n h w (fun w' => A w' && P w') = cn S n h w (fun w' => A w && P w') := cn_congr (fun w' hw => by rw [hA w' hw])
  rw [e]
  cases A w with
  | true => simp
  | false => simp [cn_false]
theorem cn_le {S : Nat → Nat → Nat} {P : (Nat → Nat) → Bool} : ∀ {n h : Nat} {w : Nat → Nat}, cn S n h w P ≤ 4 ^ n
  | 0, h, w => by
    have := bn_lt (P w)
    show bn (P w) ≤ 1
    omega
  | n + 1, h, w => by
    have hq : ∀ q, cond (may S h q) (cn S n (h + 1) (su w h q) P) 0 ≤ 4 ^ n := fun q => by
      cases may S h q
      · exact Nat.zero_le _
      · exact cn_le
    have h0 := hq 0
    have h1 := hq 1
    have h2 := hq 2
    have h3 := hq 3
    rw [Nat.pow_succ]
    simp only [cn, s4]
    omega
theorem ag_congr {S : Nat → Nat → Nat} {h : Nat} {f g : Nat → Nat} (e : ∀ v, v < S 0 1 → f v = g v) : ag S h f = ag S h g := by
  unfold ag
  congr 1
  apply propext
  exact ⟨fun a v hv => by rw [← e v hv]; exact a v hv, fun a v hv => by rw [e v hv]; exact a v hv⟩
/-- a step of the count of what fits -/
theorem cn_step {S : Nat → Nat → Nat} {P : (Nat → Nat) → Bool} {n h : Nat} {w : Nat → Nat} : cn S (n + 1) h w (fun w' => fh S (n + 1) h w' && P w') = sg 4 (fun q => cond (okq S h (fun v => ps S w v h) q) (cn S n (h + 1) (su w h q) (fun w' => fh S n (h + 1) w' && P w')) 0) := by
  rw [cn, s4_sg]
  apply sg_congr
  intro q hq
  have e1 : cn S n (h + 1) (su w h q) (fun w' => fh S (n + 1) h w' && P w') = cn S n (h + 1) (su w h q) (fun w' => (fun w' => ag S h (fun v => ps S w' v (h + 1))) w' && (fun w' => fh S n (h + 1) w' && P w') w') := by
    congr 1
    funext w'
    show ((_ && _) && _) = _
    rw [Bool.and_assoc]
  have e2 : ∀ w', (∀ i, i < h + 1 → w' i = su w h q i) → ∀ v, ps S w' v (h + 1) = tf S (fun v => ps S w v h) q v := by
    intro w' hw v
    show tv S v (ps S w' v h) (w' h) = tv S v (ps S w v h) q
    rw [hw h (by omega), su_eq, ps_congr h (fun i hi => by rw [hw i (by omega), su_ne _ _ (by omega)] : ∀ i, i < h → w' i = w i)]
  rw [e1, cn_and (fun w' hw => ag_congr (fun v _ => by rw [e2 w' hw v, e2 _ (fun _ _ => rfl) v]))]
  have e3 : ag S h (fun v => ps S (su w h q) v (h + 1)) = ag S h (tf S (fun v => ps S w v h) q) := ag_congr (fun v _ => e2 _ (fun _ _ => rfl) v)
  rw [e3, okq]
  cases may S h q <;> cases ag S h (tf S (fun v => ps S w v h) q) <;> rfl
theorem ps_su {S : Nat → Nat → Nat} {w : Nat → Nat} {h q : Nat} : (fun v => ps S (su w h q) v (h + 1)) = tf S (fun v => ps S w v h) q := by
  funext v
  show tv S v (ps S (su w h q) v h) (su w h q h) = tv S v (ps S w v h) q
  rw [su_eq, ps_congr h (fun i hi => su_ne _ _ (by omega))]
theorem wk_cn {S : Nat → Nat → Nat} : ∀ {n h : Nat} {w : Nat → Nat}, wk S n h (fun v => ps S w v h) = cn S n h w (fun w' => fh S n h w' && true)
  | 0, h, w => rfl
  | n + 1, h, w => by
    rw [cn_step, wk]
    apply sg_congr
    intro q hq
    rw [← wk_cn, ps_su]
/-- what index i of poses counts -/
def px (S : Nat → Nat → Nat) (a b i : Nat) (w : Nat → Nat) : Bool := decide (i / 24 < S 0 1 ∧ a ≤ i / 4 % 6 ∧ i / 4 % 6 < b ∧ i % 4 = ps S w (i / 24) (i / 4 % 6 + 1))
def py (a b i : Nat) (w : Nat → Nat) : Bool := decide (a ≤ i / 4 ∧ i / 4 < b ∧ i % 4 = w (i / 4))
theorem wx_cn {S : Nat → Nat → Nat} {i : Nat} : ∀ {n h : Nat} {w : Nat → Nat}, wx S n h (fun v => ps S w v h) i = cn S n h w (fun w' => fh S n h w' && px S h (h + n) i w')
  | 0, h, w => by
    have : px S h (h + 0) i w = false := by simp [px]; omega
    show 0 = bn (_ && px S h (h + 0) i w)
    rw [this]
    rfl
  | n + 1, h, w => by
    rw [cn_step, wx]
    apply sg_congr
    intro q hq
    rw [← ps_su, wx_cn, wk_cn]
    congr 1
    by_cases hh : i / 4 % 6 = h
    · have e1 : cn S n (h + 1) (su w h q) (fun w' => fh S n (h + 1) w' && px S (h + 1) (h + 1 + n) i w') = 0 := by
        rw [← cn_false (S := S) (n := n) (h := h + 1) (w := su w h q)]
        apply cn_congr
        intro w' _
        have : px S (h + 1) (h + 1 + n) i w' = false := by simp [px]; omega
        rw [this, Bool.and_false]
      have e2 : cn S n (h + 1) (su w h q) (fun w' => fh S n (h + 1) w' && px S h (h + (n + 1)) i w') = cn S n (h + 1) (su w h q) (fun w' => (fun w' => px S h (h + (n + 1)) i w') w' && (fun w' => fh S n (h + 1) w' && true) w') := by
        congr 1
        funext w'
        simp [Bool.and_comm]
      rw [e1, e2, cn_and (A := fun w' => px S h (h + (n + 1)) i w') (P := fun w' => fh S n (h + 1) w' && true), Nat.zero_add]
      · unfold nt
        by_cases hc : i / 24 < S 0 1 ∧ i / 4 % 6 = h ∧ i % 4 = ps S (su w h q) (i / 24) (h + 1)
        · have : px S h (h + (n + 1)) i (su w h q) = true := by simp only [px, hh, decide_eq_true_eq]; exact ⟨hc.1, Nat.le_refl _, by omega, hc.2.2⟩
          rw [if_pos hc, this]
          rfl
        · have : px S h (h + (n + 1)) i (su w h q) = false := by
            simp only [px, hh, decide_eq_false_iff_not]
            exact fun z => hc ⟨z.1, hh, z.2.2.2⟩
          rw [if_neg hc, this]
          rfl
      · intro w' hw
        simp only [px]
        congr 1
        apply propext
        rw [hh, ps_congr (S := S) (v := i / 24) (h + 1) hw]
    · have e1 : nt (S 0 1) h (fun v => ps S (su w h q) v (h + 1)) (cn S n (h + 1) (su w h q) fun w' => fh S n (h + 1) w' && true) i = 0 := by
        unfold nt
        exact if_neg (fun z => hh z.2.1)
      rw [e1, Nat.add_zero]
      congr 1
      funext w'
      congr 1
      simp only [px]
      congr 1
      apply propext
      constructor
      · exact fun z => ⟨z.1, by omega, by omega, z.2.2.2⟩
      · exact fun z => ⟨z.1, by omega, by omega, z.2.2.2⟩
theorem wy_cn {S : Nat → Nat → Nat} {i : Nat} : ∀ {n h : Nat} {w : Nat → Nat}, wy S n h (fun v => ps S w v h) i = cn S n h w (fun w' => fh S n h w' && py h (h + n) i w')
  | 0, h, w => by
    have : py h (h + 0) i w = false := by simp [py]; omega
    show 0 = bn (_ && py h (h + 0) i w)
    rw [this]
    rfl
  | n + 1, h, w => by
    rw [cn_step, wy]
    apply sg_congr
    intro q hq
    rw [← ps_su, wy_cn, wk_cn]
    congr 1
    by_cases hh : i / 4 = h
    · have e1 : cn S n (h + 1) (su w h q) (fun w' => fh S n (h + 1) w' && py (h + 1) (h + 1 + n) i w') = 0 := by
        rw [← cn_false (S := S) (n := n) (h := h + 1) (w := su w h q)]
        apply cn_congr
        intro w' _
        have : py (h + 1) (h + 1 + n) i w' = false := by simp [py]; omega
        rw [this, Bool.and_false]
      have e2 : cn S n (h + 1) (su w h q) (fun w' => fh S n (h + 1) w' && py h (h + (n + 1)) i w') = cn S n (h + 1) (su w h q) (fun w' => (fun w' => py h (h + (n + 1)) i w') w' && (fun w' => fh S n (h + 1) w' && true) w') := by
        congr 1
        funext w'
        simp [Bool.and_comm]
      rw [e1, e2, cn_and (A := fun w' => py h (h + (n + 1)) i w') (P := fun w' => fh S n (h + 1) w' && true), Nat.zero_add]
      · unfold gt
        by_cases hc : i = h * 4 + q
        · have : py h (h + (n + 1)) i (su w h q) = true := by simp only [py, hh, decide_eq_true_eq, su_eq]; omega
          rw [if_pos hc, this]
          rfl
        · have : py h (h + (n + 1)) i (su w h q) = false := by
            simp only [py, hh, decide_eq_false_iff_not, su_eq]
            omega
          rw [if_neg hc, this]
          rfl
      · intro w' hw
        simp only [py]
        congr 1
        apply propext
        rw [hh, hw h (by omega)]
    · have e1 : gt h q (cn S n (h + 1) (su w h q) fun w' => fh S n (h + 1) w' && true) i = 0 := by
        unfold gt
        exact if_neg (fun z => hh (by omega))
      rw [e1, Nat.add_zero]
      congr 1
      funext w'
      congr 1
      simp only [py]
      congr 1
      apply propext
      constructor
      · exact fun z => ⟨by omega, by omega, z.2.2⟩
      · exact fun z => ⟨by omega, by omega, z.2.2⟩
theorem fh_iff {S : Nat → Nat → Nat} {w : Nat → Nat} : ∀ {n h : Nat}, fh S n h w = true ↔ ∀ h', h ≤ h' → h' < h + n → ag S h' (fun v => ps S w v (h' + 1)) = true
  | 0, h => by simp [fh]; omega
  | n + 1, h => by
    rw [fh, Bool.and_eq_true, fh_iff]
    constructor
    · rintro ⟨h1, h2⟩ h' h3 h4
      by_cases e : h' = h
      · subst e; exact h1
      · exact h2 h' (by omega) (by omega)
    · intro a
      exact ⟨a h (Nat.le_refl _) (by omega), fun h' h3 h4 => a h' (by omega) (by omega)⟩
theorem fh_ft {S : Nat → Nat → Nat} (hN : nR S) (w : Nat → Nat) : fh S (S 0 0) 0 w = ft S w := by
  have : fh S (S 0 0) 0 w = true ↔ ft S w = true := by
    rw [fh_iff]
    unfold ft ag ob
    simp only [decide_eq_true_eq]
    constructor
    · intro a k hk
      obtain ⟨h1, h2, h3⟩ := hN.2 k hk
      exact (a (S 7 k) (Nat.zero_le _) (by omega) (S 6 k) h1 k hk rfl rfl).symm
    · intro a h' _ h4 v hv k hk e1 e2
      subst e1
      subst e2
      exact (a k hk).symm
  cases h1 : fh S (S 0 0) 0 w <;> cases h2 : ft S w <;> simp_all
-- by codes
def uk (S : Nat → Nat → Nat) : Nat → Nat → Nat
  | 0, _ => 0
  | n + 1, h => bn (Nat.beq (S 1 h) 4) + uk S n (h + 1)
theorem uk_ct {S : Nat → Nat → Nat} : ∀ {n h : Nat}, ct (fun h => Nat.beq (S 1 h) 4) h + uk S n h = ct (fun h => Nat.beq (S 1 h) 4) (h + n)
  | 0, h => rfl
  | n + 1, h => by
    rw [uk, show h + (n + 1) = h + 1 + n by omega, ← uk_ct, ct]
    omega
def dec (S : Nat → Nat → Nat) : Nat → Nat → Nat → (Nat → Nat) → (Nat → Nat)
  | 0, _, _, w => w
  | n + 1, h, c, w => cond (Nat.beq (S 1 h) 4) (dec S n (h + 1) (c / 4) (su w h (c % 4))) (dec S n (h + 1) c (su w h (S 1 h)))
theorem sg_4 {g : Nat → Nat} : ∀ {M : Nat}, sg (4 * M) g = sg 4 (fun q => sg M (fun c => g (4 * c + q)))
  | 0 => by simp [sg]
  | M + 1 => by
    rw [show 4 * (M + 1) = 4 * M + 1 + 1 + 1 + 1 by omega]
    simp only [sg] at *
    have := sg_4 (g := g) (M := M)
    simp only [sg] at this
    simp only [Nat.add_zero, Nat.zero_add] at *
    rw [this, show 4 * M + 1 + 1 = 4 * M + 2 by omega, show 4 * M + 2 + 1 = 4 * M + 3 by omega]
    omega
theorem cn_codes {S : Nat → Nat → Nat} {P : (Nat → Nat) → Bool} : ∀ {n h : Nat} {w : Nat → Nat}, (∀ i, h ≤ i → i < h + n → S 1 i ≤ 4) → cn S n h w P = sg (4 ^ uk S n h) (fun c => bn (P (dec S n h c w)))
  | 0, h, w, _ => by
    show bn (P w) = 0 + bn (P w)
    omega
  | n + 1, h, w, hS => by
    have ih := fun w => cn_codes (P := P) (n := n) (h := h + 1) (w := w) (fun i h1 h2 => hS i (by omega) (by omega))
    rw [cn, s4_sg]
    by_cases e : S 1 h = 4
    · have eb : Nat.beq (S 1 h) 4 = true := beq_t e
      rw [uk, eb, show bn true + uk S n (h + 1) = uk S n (h + 1) + 1 by rw [bn_t rfl]; omega, Nat.pow_succ, Nat.mul_comm, sg_4]
      apply sg_congr
      intro q hq
      have em : may S h q = true := by unfold may; rw [eb]; rfl
      rw [em]
      show cn S n (h + 1) (su w h q) P = _
      rw [ih]
      apply sg_congr
      intro c _
      rw [dec, eb, show (4 * c + q) / 4 = c by omega, show (4 * c + q) % 4 = q by omega]
      rfl
    · have eb : Nat.beq (S 1 h) 4 = false := beq_f e
      have h4 : S 1 h < 4 := by have := hS h (Nat.le_refl _) (by omega); omega
      have ed : ∀ c, dec S (n + 1) h c w = dec S n (h + 1) c (su w h (S 1 h)) := fun c => by rw [dec, eb]; rfl
      have eu : uk S (n + 1) h = uk S n (h + 1) := by rw [uk, eb]; exact Nat.zero_add _
      simp only [ed, eu]
      rw [← ih]
      have em : ∀ q, may S h q = Nat.beq (S 1 h) q := fun q => by unfold may; rw [eb]; rfl
      simp only [em, sg]
      match S 1 h, h4 with
      | 0, _ => exact Nat.zero_add _
      | 1, _ => exact Nat.zero_add _
      | 2, _ => exact Nat.zero_add _
      | 3, _ => exact Nat.zero_add _
/-- what is left of a code behind h hours -/
def rm (S : Nat → Nat → Nat) (c : Nat) : Nat → Nat
  | 0 => c
  | h + 1 => cond (Nat.beq (S 1 h) 4) (rm S c h / 4) (rm S c h)
/-- the winds of a code -/
def wd (S : Nat → Nat → Nat) (c h : Nat) : Nat := if h < S 0 0 then cond (Nat.beq (S 1 h) 4) (rm S c h % 4) (S 1 h) else 0
theorem dec_wd {S : Nat → Nat → Nat} {c : Nat} : ∀ {n h : Nat} {w : Nat → Nat}, h + n = S 0 0 → (∀ i, i < h → w i = wd S c i) → (∀ i, S 0 0 ≤ i → w i = 0) → ∀ i, dec S n h (rm S c h) w i = wd S c i
  | 0, h, w, hn, h1, h2, i => by
    show w i = _
    by_cases hi : i < h
    · exact h1 i hi
    · rw [h2 i (by omega)]
      unfold wd
      rw [if_neg (by omega)]
  | n + 1, h, w, hn, h1, h2, i => by
    have hl : h < S 0 0 := by omega
    cases eb : Nat.beq (S 1 h) 4 with
    | true =>
      have e := dec_wd (S := S) (c := c) (n := n) (h := h + 1) (w := su w h (rm S c h % 4)) (by omega) (fun j hj => by
        by_cases e : j = h
        · subst e; rw [su_eq, wd, if_pos hl, eb]; rfl
        · rw [su_ne _ _ e]; exact h1 j (by omega)) (fun j hj => by rw [su_ne _ _ (by omega)]; exact h2 j hj) i
      rw [rm, eb] at e
      rw [dec, eb]
      exact e
    | false =>
      have e := dec_wd (S := S) (c := c) (n := n) (h := h + 1) (w := su w h (S 1 h)) (by omega) (fun j hj => by
        by_cases e : j = h
        · subst e; rw [su_eq, wd, if_pos hl, eb]; rfl
        · rw [su_ne _ _ e]; exact h1 j (by omega)) (fun j hj => by rw [su_ne _ _ (by omega)]; exact h2 j hj) i
      rw [rm, eb] at e
      rw [dec, eb]
      exact e
/-- how many codes -/
def nc (S : Nat → Nat → Nat) : Nat := 4 ^ ct (fun h => Nat.beq (S 1 h) 4) (S 0 0)
theorem cnt_codes {S : Nat → Nat → Nat} (hR : dR S) (P : (Nat → Nat) → Bool) : cnt S P = sg (nc S) (fun c => bn (ft S (wd S c) && P (wd S c))) := by
  unfold cnt nc
  rw [cn_codes (fun i _ hi => hR.2.2.1 i (by omega))]
  have e := uk_ct (S := S) (n := S 0 0) (h := 0)
  rw [show ct (fun h => Nat.beq (S 1 h) 4) 0 = 0 from rfl, Nat.zero_add, Nat.zero_add] at e
  rw [e]
  apply sg_congr
  intro c _
  have : dec S (S 0 0) 0 c (fun _ => 0) = wd S c := funext (fun i => dec_wd (S := S) (c := c) (n := S 0 0) (h := 0) (w := fun _ => 0) (Nat.zero_add _) (fun i hi => absurd hi (Nat.not_lt_zero _)) (fun _ _ => rfl) i)
  rw [this]
-- what is asked, in numbers
def aAll (S : Nat → Nat → Nat) : Nat := cnt S (fun _ => true)
def aPt (S : Nat → Nat → Nat) (v h q : Nat) : Nat := cnt S (fun w => Nat.beq (ps S w v (h + 1)) q)
def aBl (S : Nat → Nat → Nat) (h q : Nat) : Nat := cnt S (fun w => Nat.beq (w h) q)
theorem cnt_le {S : Nat → Nat → Nat} (hR : dR S) (P : (Nat → Nat) → Bool) : cnt S P ≤ 4096 := by
  have h1 : cnt S P ≤ 4 ^ S 0 0 := cn_le
  have h2 : 4 ^ S 0 0 ≤ 4 ^ 6 := Nat.pow_le_pow_right (by decide) hR.1
  omega
theorem wk_all {S : Nat → Nat → Nat} (hN : nR S) : wk S (S 0 0) 0 (S 3) = aAll S := by
  have e := wk_cn (S := S) (n := S 0 0) (h := 0) (w := fun _ => 0)
  unfold aAll cnt
  simp only [fh_ft hN] at e
  exact e
theorem wx_pt {S : Nat → Nat → Nat} (hN : nR S) {v h q : Nat} (hv : v < S 0 1) (hh : h < S 0 0) (h6 : S 0 0 ≤ 6) (hq : q < 4) : wx S (S 0 0) 0 (S 3) ((v * 6 + h) * 4 + q) = aPt S v h q := by
  have e := wx_cn (S := S) (i := (v * 6 + h) * 4 + q) (n := S 0 0) (h := 0) (w := fun _ => 0)
  unfold aPt cnt
  simp only [fh_ft hN] at e
  refine Eq.trans e ?_
  congr 1
  funext w
  congr 1
  unfold px
  rw [show ((v * 6 + h) * 4 + q) / 24 = v by omega, show ((v * 6 + h) * 4 + q) / 4 % 6 = h by omega, show ((v * 6 + h) * 4 + q) % 4 = q by omega]
  show _ = Nat.beq (ps S w v (h + 1)) q
  by_cases hc : ps S w v (h + 1) = q
  · rw [beq_t hc]
    simp only [decide_eq_true_eq]
    exact ⟨hv, Nat.zero_le _, by omega, hc.symm⟩
  · rw [beq_f hc]
    simp only [decide_eq_false_iff_not]
    exact fun z => hc z.2.2.2.symm
theorem wy_bl {S : Nat → Nat → Nat} (hN : nR S) {h q : Nat} (hh : h < S 0 0) (hq : q < 4) : wy S (S 0 0) 0 (S 3) (h * 4 + q) = aBl S h q := by
  have e := wy_cn (S := S) (i := h * 4 + q) (n := S 0 0) (h := 0) (w := fun _ => 0)
  unfold aBl cnt
  simp only [fh_ft hN] at e
  refine Eq.trans e ?_
  congr 1
  funext w
  congr 1
  unfold py
  rw [show (h * 4 + q) / 4 = h by omega, show (h * 4 + q) % 4 = q by omega]
  show _ = Nat.beq (w h) q
  by_cases hc : w h = q
  · rw [beq_t hc]
    simp only [decide_eq_true_eq]
    exact ⟨Nat.zero_le _, by omega, hc.symm⟩
  · rw [beq_f hc]
    simp only [decide_eq_false_iff_not]
    exact fun z => hc z.2.2.symm
end
section
/-! The other one's methods: all days by their codes. -/
theorem mD_x {ps : List Nat} {S G G' : _} (hx : eqx ps G G') (hm : (sm_mem ps 30 || (sm_mem ps 31 || (sm_mem ps 32 || (sm_mem ps 33 || sm_mem ps 34)))) = false) (h : mD S G) : mD S G' := by
  simp only [Bool.or_eq_false_iff] at hm
  obtain ⟨h3, h4, h5, h6, h7⟩ := hm
  unfold mD
  rw [hx 30 h3, hx 31 h4, hx 32 h5, hx 33 h6, hx 34 h7]
  exact h
theorem mS_x {ps : List Nat} {S G G' : _} (hx : eqx ps G G') (hm : (sm_mem ps 30 || (sm_mem ps 35 || (sm_mem ps 36 || sm_mem ps 37))) = false) (h : mS S G) : mS S G' := by
  simp only [Bool.or_eq_false_iff] at hm
  obtain ⟨h3, h4, h5, h6⟩ := hm
  unfold mS
  rw [hx 30 h3, hx 35 h4, hx 36 h5, hx 37 h6]
  exact h
theorem mD_v {S G : _} (h : mD S G) : G 30 3 = nI (S 0 1) := h.2.1
theorem mD_h {S G : _} (h : mD S G) : G 30 1 = nI (S 0 0) := h.1
theorem mS_s {S G : _} (h : mS S G) : G 30 7 = nI (S 0 2) := h.1
section MODEL
variable {CT : sm_CT} {G : Nat → Nat → Int32} {L : Nat → Nat → Int64} {Q : sm_Q} {S : Nat → Nat → Nat} {h : sm_H}
set_option maxRecDepth 100000 in
set_option maxHeartbeats 4000000 in
theorem s_within (hC : sm_C 1 CT) {x a b : Int32} (h1 : a ≤ x → x ≤ b → Q (some (.int (nI 1))) h) (h0 : ¬ (a ≤ x ∧ x ≤ b) → Q (some (.int (nI 0))) h) : CT 79 [.int x, .int a, .int b] h Q := by
  refine sm_meth hC [some (.int x), some (.int a), some (.int b)] rfl rfl rfl ?_
  refine sm_body [] 40 sm_k79 (fun CT K hC hK => ?_)
  repeat' first
    | (with_reducible refine And.intro ?_ ?_)
    | ((with_reducible intro h9); first | exact absurd h9 (by decide) | skip)
    | (with_reducible exact zn_in (by omega) (by decide))
    | (with_reducible exact z01) | (with_reducible exact z11) | (with_reducible exact zb01 _)
    | (with_reducible exact zn_inb (by omega) (by decide))
    | (with_reducible exact zn_ina (by omega) (by decide))
    | (with_reducible exact zn_inc (by omega) (by decide))
    | ((conv => whnf); first | (with_reducible refine And.intro ?_ ?_) | ((with_reducible intro h9); first | exact absurd h9 (by decide) | skip) | (with_reducible refine hK _ _ _ _ (sm_un ?_)))
  · exact h0 (fun z => absurd ‹x < a› (Int32.not_lt.mpr z.1))
  · exact h0 (fun z => absurd h9 (Int32.not_lt.mpr z.2))
  · exact h1 (Int32.not_lt.mp ‹¬ x < a›) (Int32.not_lt.mp h9)
set_option maxRecDepth 100000 in
set_option maxHeartbeats 4000000 in
theorem s_isQuarterM (hC : sm_C 2 CT) {x : Int32} (h1 : ∀ j, j < 4 → x = nI j → Q (some (.int (nI 1))) h) (h0 : inb x 4 = false → Q (some (.int (nI 0))) h) : CT 80 [.int x] h Q := by
  refine sm_meth hC [some (.int x)] rfl rfl rfl ?_
  refine sm_body [] 40 sm_k80 (fun CT K hC hK => ?_)
  repeat' first
    | (with_reducible refine And.intro ?_ ?_)
    | ((with_reducible intro h9); first | exact absurd h9 (by decide) | skip)
    | (with_reducible exact zn_in (by omega) (by decide))
    | (with_reducible exact z01) | (with_reducible exact z11) | (with_reducible exact zb01 _)
    | (with_reducible exact zn_inb (by omega) (by decide))
    | (with_reducible exact zn_ina (by omega) (by decide))
    | (with_reducible exact zn_inc (by omega) (by decide))
    | ((conv => whnf); first | (with_reducible refine And.intro ?_ ?_) | ((with_reducible intro h9); first | exact absurd h9 (by decide) | skip) | (with_reducible refine hK _ _ _ _ (sm_un ?_)) | (with_reducible refine s_within (hC.mono (by omega)) (fun ha hb => ?_) (fun hn => ?_)))
  · obtain ⟨j, hj, e⟩ := wi_t (x := x) (y := nI 3) (n := 4) (by decide) rfl ha hb
    exact h1 j hj e
  · exact h0 (wi_f (y := nI 3) rfl hn)
theorem pred_toInt {n : Nat} (hn : n < 2 ^ 30) : (nI n - nI 1).toInt = (n : Int) - 1 := pk_sub_toInt hn (by decide)
set_option maxRecDepth 100000 in
set_option maxHeartbeats 4000000 in
theorem s_isHour (hC : sm_C 2 CT) {n : Nat} (e : G 30 1 = nI n) (hn : n ≤ 6) {x : Int32} (h1 : ∀ j, j < n → x = nI j → Q (some (.int (nI 1))) (hp G L)) (h0 : inb x n = false → Q (some (.int (nI 0))) (hp G L)) : CT 88 [.ref 30, .int x] (hp G L) Q := by
  refine sm_meth hC [some (.ref 30), some (.int x)] rfl rfl rfl ?_
  refine sm_body [] 40 sm_k88 (fun CT K hC hK => ?_)
  repeat' first
    | (with_reducible refine And.intro ?_ ?_)
    | ((with_reducible intro h9); first | exact absurd h9 (by decide) | skip)
    | (with_reducible exact zn_in (by omega) (by decide))
    | (with_reducible exact z01) | (with_reducible exact z11) | (with_reducible exact zb01 _)
    | (with_reducible exact zn_inb (by omega) (by decide))
    | (with_reducible exact zn_ina (by omega) (by decide))
    | (with_reducible exact zn_inc (by omega) (by decide))
    | ((conv => whnf); first | (with_reducible refine And.intro ?_ ?_) | ((with_reducible intro h9); first | exact absurd h9 (by decide) | skip) | (with_reducible refine hK _ _ _ _ (sm_un ?_)) | (rw [e]; refine s_within (hC.mono (by omega)) (fun ha hb => ?_) (fun hn => ?_)))
  · obtain ⟨j, hj, e⟩ := wi_t (by omega) (pred_toInt (by omega)) ha hb
    exact h1 j hj e
  · exact h0 (wi_f (pred_toInt (by omega)) hn)
set_option maxRecDepth 100000 in
set_option maxHeartbeats 4000000 in
theorem s_isVane (hC : sm_C 2 CT) {n : Nat} (e : G 30 3 = nI n) (hn : n ≤ 4) {x : Int32} (h1 : ∀ j, j < n → x = nI j → Q (some (.int (nI 1))) (hp G L)) (h0 : inb x n = false → Q (some (.int (nI 0))) (hp G L)) : CT 89 [.ref 30, .int x] (hp G L) Q := by
  refine sm_meth hC [some (.ref 30), some (.int x)] rfl rfl rfl ?_
  refine sm_body [] 40 sm_k89 (fun CT K hC hK => ?_)
  repeat' first
    | (with_reducible refine And.intro ?_ ?_)
    | ((with_reducible intro h9); first | exact absurd h9 (by decide) | skip)
    | (with_reducible exact zn_in (by omega) (by decide))
    | (with_reducible exact z01) | (with_reducible exact z11) | (with_reducible exact zb01 _)
    | (with_reducible exact zn_inb (by omega) (by decide))
    | (with_reducible exact zn_ina (by omega) (by decide))
    | (with_reducible exact zn_inc (by omega) (by decide))
    | ((conv => whnf); first | (with_reducible refine And.intro ?_ ?_) | ((with_reducible intro h9); first | exact absurd h9 (by decide) | skip) | (with_reducible refine hK _ _ _ _ (sm_un ?_)) | (rw [e]; refine s_within (hC.mono (by omega)) (fun ha hb => ?_) (fun hn => ?_)))
  · obtain ⟨j, hj, e⟩ := wi_t (by omega) (pred_toInt (by omega)) ha hb
    exact h1 j hj e
  · exact h0 (wi_f (pred_toInt (by omega)) hn)
set_option maxRecDepth 100000 in
set_option maxHeartbeats 4000000 in
theorem s_seenOf (hC : sm_C 1 CT) (hS : mS S G) (hN : nR S) (hR : dR S) {v : Nat} (hv : v < 4) (hQ : Q (some (.int (nI (ct (fun k => Nat.beq (S 6 k) v) (S 0 2))))) (hp G L)) : CT 94 [.ref 30, .int (nI v)] (hp G L) Q := by
  obtain ⟨e1, e2⟩ := hS
  obtain ⟨n1, n2⟩ := hN
  obtain ⟨r1, r2, r3, r4⟩ := hR
  refine sm_meth hC [some (.ref 30), some (.int (nI v)), none, none] rfl rfl rfl ?_
  have lo : ∀ i, i ≤ S 0 2 → sm_Wk 0 94 Q none 4 [some (.ref 30), some (.int (nI v)), some (.int (nI (ct (fun k => Nat.beq (S 6 k) v) i))), some (.int (nI i))] [] (hp G L) := by
    refine up _ (fun i hi ih => ?_)
    refine sm_body [4] 60 sm_k94 (fun CT K hC hK => ?_)
    have eb : i < S 0 2 → (G 35 (nI i).toNatClampNeg = nI v ↔ S 6 i = v) := by
      intro hl
      have := (n2 i hl).1
      rw [zn_clI (by omega), (e2 i hl).1, nI_eq (by omega) (by omega)]
    repeat' first
      | (with_reducible refine And.intro ?_ ?_)
      | ((with_reducible intro h9); first | exact absurd h9 (by decide) | (replace h9 := nle e1 (by omega) (by omega) h9) | (replace h9 := yle e1 (by omega) (by omega) h9) | (rw [eb ‹_›] at h9) | skip)
      | (with_reducible exact zn_in (by omega) (by decide))
      | (with_reducible exact z01) | (with_reducible exact z11) | (with_reducible exact zb01 _)
      | (with_reducible exact zn_inb (by omega) (by decide))
      | (with_reducible exact zn_ina (by omega) (by decide))
      | (with_reducible exact zn_inc (by omega) (by decide))
      | ((conv => whnf); first | (with_reducible refine And.intro ?_ ?_) | ((with_reducible intro h9); first | exact absurd h9 (by decide) | (replace h9 := nle e1 (by omega) (by omega) h9) | (replace h9 := yle e1 (by omega) (by omega) h9) | (rw [eb ‹_›] at h9) | skip) | (with_reducible refine hK _ _ _ _ (sm_un ?_)))
    all_goals try have eq1 : (fun k => Nat.beq (S 6 k) v) i = true := beq_t ‹_›
    all_goals try have eq2 : (fun k => Nat.beq (S 6 k) v) i = false := beq_f ‹_›
    all_goals first
      | ((obtain rfl : i = S 0 2 := by omega); exact hQ)
      | (have e := ih (by omega); rw [ct, bn_t eq1] at e; simp only [nI_add]; exact ⟨⟨e⟩⟩)
      | (have e := ih (by omega); rw [ct, bn_f eq2] at e; simp only [nI_add]; exact ⟨⟨e⟩⟩)
  refine sm_body [4] 40 sm_k94 (fun CT K hC hK => ?_)
  repeat' first
    | (with_reducible refine And.intro ?_ ?_)
    | ((with_reducible intro h9); first | exact absurd h9 (by decide) | skip)
    | (with_reducible exact zn_in (by omega) (by decide))
    | (with_reducible exact z01) | (with_reducible exact z11) | (with_reducible exact zb01 _)
    | (with_reducible exact zn_inb (by omega) (by decide))
    | (with_reducible exact zn_ina (by omega) (by decide))
    | (with_reducible exact zn_inc (by omega) (by decide))
    | ((conv => whnf); first | (with_reducible refine And.intro ?_ ?_) | ((with_reducible intro h9); first | exact absurd h9 (by decide) | skip) | (with_reducible refine hK _ _ _ _ (sm_un ?_)))
  exact ⟨⟨lo 0 (Nat.zero_le _)⟩⟩
set_option maxRecDepth 100000 in
set_option maxHeartbeats 4000000 in
theorem s_unknownHours (hC : sm_C 1 CT) (hD : mD S G) (hR : dR S) (hQ : Q (some (.int (nI (ct (fun h => Nat.beq (S 1 h) 4) (S 0 0))))) (hp G L)) : CT 101 [.ref 30] (hp G L) Q := by
  obtain ⟨e1, e2, e3, e4⟩ := hD
  obtain ⟨r1, r2, r3, r4⟩ := hR
  refine sm_meth hC [some (.ref 30), none, none] rfl rfl rfl ?_
  have lo : ∀ i, i ≤ S 0 0 → sm_Wk 0 101 Q none 4 [some (.ref 30), some (.int (nI (ct (fun h => Nat.beq (S 1 h) 4) i))), some (.int (nI i))] [] (hp G L) := by
    refine up _ (fun i hi ih => ?_)
    refine sm_body [4] 60 sm_k101 (fun CT K hC hK => ?_)
    have eb : i < S 0 0 → (G 31 (nI i).toNatClampNeg = -1 ↔ S 1 i = 4) := by
      intro hl
      rw [zn_clI (by omega), e3 i hl, wI_m (r3 i hl)]
    repeat' first
      | (with_reducible refine And.intro ?_ ?_)
      | ((with_reducible intro h9); first | exact absurd h9 (by decide) | (replace h9 := nle e1 (by omega) (by omega) h9) | (replace h9 := yle e1 (by omega) (by omega) h9) | (rw [eb ‹_›] at h9) | skip)
      | (with_reducible exact zn_in (by omega) (by decide))
      | (with_reducible exact z01) | (with_reducible exact z11) | (with_reducible exact zb01 _)
      | (with_reducible exact zn_inb (by omega) (by decide))
      | (with_reducible exact zn_ina (by omega) (by decide))
      | (with_reducible exact zn_inc (by omega) (by decide))
      | ((conv => whnf); first | (with_reducible refine And.intro ?_ ?_) | ((with_reducible intro h9); first | exact absurd h9 (by decide) | (replace h9 := nle e1 (by omega) (by omega) h9) | (replace h9 := yle e1 (by omega) (by omega) h9) | (rw [eb ‹_›] at h9) | skip) | (with_reducible refine hK _ _ _ _ (sm_un ?_)))
    all_goals try have eq1 : (fun h => Nat.beq (S 1 h) 4) i = true := beq_t ‹_›
    all_goals try have eq2 : (fun h => Nat.beq (S 1 h) 4) i = false := beq_f ‹_›
    all_goals first
      | ((obtain rfl : i = S 0 0 := by omega); exact hQ)
      | (have e := ih (by omega); rw [ct, bn_t eq1] at e; simp only [nI_add]; exact ⟨⟨e⟩⟩)
      | (have e := ih (by omega); rw [ct, bn_f eq2] at e; simp only [nI_add]; exact ⟨⟨e⟩⟩)
  refine sm_body [4] 40 sm_k101 (fun CT K hC hK => ?_)
  repeat' first
    | (with_reducible refine And.intro ?_ ?_)
    | ((with_reducible intro h9); first | exact absurd h9 (by decide) | skip)
    | (with_reducible exact zn_in (by omega) (by decide))
    | (with_reducible exact z01) | (with_reducible exact z11) | (with_reducible exact zb01 _)
    | (with_reducible exact zn_inb (by omega) (by decide))
    | (with_reducible exact zn_ina (by omega) (by decide))
    | (with_reducible exact zn_inc (by omega) (by decide))
    | ((conv => whnf); first | (with_reducible refine And.intro ?_ ?_) | ((with_reducible intro h9); first | exact absurd h9 (by decide) | skip) | (with_reducible refine hK _ _ _ _ (sm_un ?_)))
  exact ⟨⟨lo 0 (Nat.zero_le _)⟩⟩
set_option maxRecDepth 100000 in
set_option maxHeartbeats 4000000 in
theorem s_codes (hC : sm_C 2 CT) (hD : mD S G) (hR : dR S) (hQ : Q (some (.int (nI (nc S)))) (hp G L)) : CT 102 [.ref 30] (hp G L) Q := by
  have r1 := hR.1
  have hu := ct_le (P := fun h => Nat.beq (S 1 h) 4) (S 0 0)
  refine sm_meth hC [some (.ref 30)] rfl rfl rfl ?_
  refine sm_body [] 40 sm_k102 (fun CT K hC hK => ?_)
  repeat' first
    | (with_reducible refine And.intro ?_ ?_)
    | ((with_reducible intro h9); first | exact absurd h9 (by decide) | skip)
    | (with_reducible exact zn_in (by omega) (by decide))
    | (with_reducible exact z01) | (with_reducible exact z11) | (with_reducible exact zb01 _)
    | (with_reducible exact zn_inb (by omega) (by decide))
    | (with_reducible exact zn_ina (by omega) (by decide))
    | (with_reducible exact zn_inc (by omega) (by decide))
    | ((conv => whnf); first | (with_reducible refine And.intro ?_ ?_) | ((with_reducible intro h9); first | exact absurd h9 (by decide) | skip) | (with_reducible refine hK _ _ _ _ (sm_un ?_)) | (with_reducible refine s_unknownHours (hC.mono (by omega)) hD hR ?_))
  refine zq ?_ hQ
  rw [zn_sh2 (by omega), Nat.one_mul]
  rfl
theorem nc_le {S : Nat → Nat → Nat} (hR : dR S) : nc S ≤ 4096 := by
  have hu := ct_le (P := fun h => Nat.beq (S 1 h) 4) (S 0 0)
  have r1 := hR.1
  have : nc S ≤ 4 ^ 6 := Nat.pow_le_pow_right (by decide) (by omega)
  omega
set_option maxRecDepth 100000 in
set_option maxHeartbeats 4000000 in
theorem s_layVane (hC : sm_C 3 CT) (hD : mD S G) (hR : dR S) {w : Nat → Nat} (hw : ∀ h, h < S 0 0 → w h < 4) (hB : ∀ h, h < S 0 0 → G 39 h = nI (w h)) {v : Nat} (hv : v < S 0 1)
    (hQ : ∀ G', eqx [40] G G' → (∀ h, h < S 0 0 → G' 40 (6 * v + h) = nI (ps S w v (h + 1))) → (∀ i, ¬ (i / 6 = v ∧ i % 6 < S 0 0) → G' 40 i = G 40 i) → Q none (hp G' L)) : CT 104 [.ref 30, .int (nI v)] (hp G L) Q := by
  have hD' := hD
  obtain ⟨e1, e2, e3, e4⟩ := hD'
  obtain ⟨r1, r2, r3, r4⟩ := hR
  have cv : (nI v).toNatClampNeg = v := nI_clamp (by omega)
  have p4 : ∀ i, i ≤ S 0 0 → ps S w v i < 4 := fun i hi => ps_lt (r4 v hv).2.1 i (fun j hj => hw j (by omega))
  refine sm_meth hC [some (.ref 30), some (.int (nI v)), none, none] rfl rfl rfl ?_
  have lo : ∀ i, i ≤ S 0 0 → ∀ G1, eqx [40] G G1 → (∀ h, h < i → G1 40 (6 * v + h) = nI (ps S w v (h + 1))) → (∀ i, ¬ (i / 6 = v ∧ i % 6 < S 0 0) → G1 40 i = G 40 i) → sm_Wk 2 104 Q none 9 [some (.ref 30), some (.int (nI v)), some (.int (nI (ps S w v i))), some (.int (nI i))] [] (hp G1 L) := by
    refine up _ (fun i hi ih G1 hx h1 h2 => ?_)
    obtain ⟨f1, f2, f3, f4⟩ := mD_x hx rfl hD
    have hB1 : i < S 0 0 → G1 39 i = nI (w i) := fun hl => by rw [hx 39 rfl]; exact hB i hl
    refine sm_body [9] 60 sm_k104 (fun CT K hC hK => ?_)
    repeat' first
      | (with_reducible refine And.intro ?_ ?_)
      | ((with_reducible intro h9); first | exact absurd h9 (by decide) | (replace h9 := nle f1 (by omega) (by omega) h9) | (replace h9 := yle f1 (by omega) (by omega) h9) | skip)
      | (with_reducible exact zn_in (by omega) (by decide))
      | (with_reducible exact z01) | (with_reducible exact z11) | (with_reducible exact zb01 _)
      | (with_reducible exact zn_inb (by omega) (by decide))
      | (with_reducible exact zn_ina (by omega) (by decide))
      | (with_reducible exact zn_inc (by omega) (by decide))
      | ((conv => whnf); first | (with_reducible refine And.intro ?_ ?_) | ((with_reducible intro h9); first | exact absurd h9 (by decide) | (replace h9 := nle f1 (by omega) (by omega) h9) | (replace h9 := yle f1 (by omega) (by omega) h9) | skip) | (with_reducible refine hK _ _ _ _ (sm_un ?_)) | (simp only [cv, zn_clI (show i < 2 ^ 31 by omega), (f4 v hv).1, (f4 v hv).2.2, hB1 ‹_›]; refine s_turnedM (hC.mono (by decide)) (r4 v hv).1 (r4 v hv).2.2 (p4 i hi) (hw i ‹_›) ?_))
    · obtain rfl : i = S 0 0 := by omega
      exact hQ G1 hx h1 h2
    · simp only [pk_mul, nI_add, zn_clI (show 6 * v + i < 2 ^ 31 by omega), hp_0, hp_1, hp_2, hp_3, hp_4, hp_5, hp_6, hp_7, hp_8, hp_9, hp_10, hp_11, hp_12, hp_13, hp_14, hp_15, hp_16, hp_17, hp_18, hp_19, hp_20, hp_22, hp_23, hp_24, hp_25, hp_26, hp_27, hp_28, hp_29, hp_30, hp_31, hp_32, hp_33, hp_34, hp_35, hp_36, hp_37, hp_38, hp_39, hp_40, hp_41, hp_42, hp_43, hp_44, hp_45, hp_46, hp_47, hp_48, hp_49, hf0_5, hf0_6, hf0_7, hf1_1, hf3_0, hf3_2, hf3_6, hf10_0, hf10_2, hf10_6, hf17_3, hf17_4, hf20_3, hf20_4, hf30_0, hf30_1, hf30_3, hf30_7, hf30_11, hf30_12, hf30_20, hf30_22, hf30_23, hf30_24, hf30_25, hf30_21, hf30_31, upd_su, updL_su]
      refine ⟨⟨ih h9 _ (eqx_su 40 _ rfl hx) (fun j hj => ?_) (fun j hj => ?_)⟩⟩
      · rw [su_eq, su_if]
        by_cases hji : j = i
        · subst hji; rw [if_pos rfl]; rfl
        · rw [if_neg (by omega)]; exact h1 j (by omega)
      · rw [su_eq, su_if, if_neg (by omega)]
        exact h2 j hj
  refine sm_body [9] 40 sm_k104 (fun CT K hC hK => ?_)
  repeat' first
    | (with_reducible refine And.intro ?_ ?_)
    | ((with_reducible intro h9); first | exact absurd h9 (by decide) | skip)
    | (with_reducible exact zn_in (by omega) (by decide))
    | (with_reducible exact z01) | (with_reducible exact z11) | (with_reducible exact zb01 _)
    | (with_reducible exact zn_inb (by omega) (by decide))
    | (with_reducible exact zn_ina (by omega) (by decide))
    | (with_reducible exact zn_inc (by omega) (by decide))
    | ((conv => whnf); first | (with_reducible refine And.intro ?_ ?_) | ((with_reducible intro h9); first | exact absurd h9 (by decide) | skip) | (with_reducible refine hK _ _ _ _ (sm_un ?_)))
  simp only [cv, (e4 v hv).2.1]
  exact ⟨⟨lo 0 (Nat.zero_le _) G eqx_rfl (fun j hj => absurd hj (Nat.not_lt_zero _)) (fun _ _ => rfl)⟩⟩
theorem wd_lt {S : Nat → Nat → Nat} (hR : dR S) (c i : Nat) : wd S c i < 4 := by
  unfold wd
  split
  · rename_i hi
    have := hR.2.2.1 i hi
    cases hb : Nat.beq (S 1 i) 4 with
    | true => show _ % 4 < 4; omega
    | false => have := Nat.ne_of_beq_eq_false hb; show S 1 i < 4; omega
  · decide
theorem rm_le {S : Nat → Nat → Nat} {c : Nat} : ∀ h, rm S c h ≤ c
  | 0 => Nat.le_refl _
  | h + 1 => by
    have := rm_le (S := S) (c := c) h
    rw [rm]
    cases Nat.beq (S 1 h) 4
    · exact this
    · show rm S c h / 4 ≤ c; omega
set_option maxRecDepth 100000 in
set_option maxHeartbeats 4000000 in
theorem s_layDay (hC : sm_C 4 CT) (hD : mD S G) (hR : dR S) {c : Nat} (hc : c < 2 ^ 31)
    (hQ : ∀ G', eqx [39, 40] G G' → (∀ h, h < S 0 0 → G' 39 h = nI (wd S c h)) → (∀ v, v < S 0 1 → ∀ h, h < S 0 0 → G' 40 (6 * v + h) = nI (ps S (wd S c) v (h + 1))) → (∀ i, S 0 0 ≤ i % 6 ∨ S 0 1 ≤ i / 6 → G' 40 i = G 40 i) → Q none (hp G' L)) : CT 103 [.ref 30, .int (nI c)] (hp G L) Q := by
  have hD' := hD
  obtain ⟨e1, e2, e3, e4⟩ := hD'
  have hR' := hR
  obtain ⟨r1, r2, r3, r4⟩ := hR'
  refine sm_meth hC [some (.ref 30), some (.int (nI c)), none, none, none] rfl rfl rfl ?_
  have lo2 : ∀ i, i ≤ S 0 1 → ∀ (o2 : Int32) o4 G1, eqx [39, 40] G G1 → (∀ h, h < S 0 0 → G1 39 h = nI (wd S c h)) → (∀ v, v < i → ∀ h, h < S 0 0 → G1 40 (6 * v + h) = nI (ps S (wd S c) v (h + 1))) → (∀ i, S 0 0 ≤ i % 6 ∨ S 0 1 ≤ i / 6 → G1 40 i = G 40 i) → sm_Wk 3 103 Q none 73 [some (.ref 30), some (.int (nI c)), some (.int o2), some (.int (nI i)), o4] [] (hp G1 L) := by
    refine up _ (fun i hi ih o2 o4 G1 hx h1 h2 hu => ?_)
    have hD1 := mD_x hx rfl hD
    have f2 := mD_v hD1
    refine sm_body [73] 60 sm_k103 (fun CT K hC hK => ?_)
    repeat' first
      | (with_reducible refine And.intro ?_ ?_)
      | ((with_reducible intro h9); first | exact absurd h9 (by decide) | (replace h9 := nle f2 (by omega) (by omega) h9) | (replace h9 := yle f2 (by omega) (by omega) h9) | skip)
      | (with_reducible exact zn_in (by omega) (by decide))
      | (with_reducible exact z01) | (with_reducible exact z11) | (with_reducible exact zb01 _)
      | (with_reducible exact zn_inb (by omega) (by decide))
      | (with_reducible exact zn_ina (by omega) (by decide))
      | (with_reducible exact zn_inc (by omega) (by decide))
      | ((conv => whnf); first | (with_reducible refine And.intro ?_ ?_) | ((with_reducible intro h9); first | exact absurd h9 (by decide) | (replace h9 := nle f2 (by omega) (by omega) h9) | (replace h9 := yle f2 (by omega) (by omega) h9) | skip) | (with_reducible refine hK _ _ _ _ (sm_un ?_)) | (with_reducible refine s_layVane (hC.mono (by omega)) hD1 hR (fun h _ => wd_lt hR c h) h1 ‹_› (fun G2 hx2 h3 h4 => ?_)))
    · obtain rfl : i = S 0 1 := by omega
      exact hQ G1 hx h1 h2 hu
    · simp only [nI_add]
      refine ⟨⟨ih h9 o2 o4 G2 (eqx_trans hx (eqx_sub rfl hx2)) (fun j hj => by rw [hx2 39 rfl]; exact h1 j hj) (fun v hv j hj => ?_) (fun j hj => by rw [h4 j (by omega)]; exact hu j hj)⟩⟩
      by_cases hvi : v = i
      · subst hvi; exact h3 j hj
      · rw [h4 _ (by omega)]; exact h2 v (by omega) j hj
  have lo : ∀ i, i ≤ S 0 0 → ∀ o4 G1, eqx [39, 40] G G1 → (∀ h, h < i → G1 39 h = nI (wd S c h)) → G1 40 = G 40 → sm_Wk 3 103 Q none 4 [some (.ref 30), some (.int (nI c)), some (.int (nI (rm S c i))), some (.int (nI i)), o4] [] (hp G1 L) := by
    refine up _ (fun i hi ih o4 G1 hx h1 hu => ?_)
    have hD1 := mD_x hx rfl hD
    obtain ⟨f1, f2, f3, f4⟩ := hD1
    have eb : i < S 0 0 → (G1 31 (nI i).toNatClampNeg = -1 ↔ S 1 i = 4) := by
      intro hl
      rw [zn_clI (by omega), f3 i hl, wI_m (r3 i hl)]
    refine sm_body [4, 73] 60 sm_k103 (fun CT K hC hK => ?_)
    repeat' first
      | (with_reducible refine And.intro ?_ ?_)
      | ((with_reducible intro h9); first | exact absurd h9 (by decide) | (replace h9 := nle f1 (by omega) (by omega) h9) | (replace h9 := yle f1 (by omega) (by omega) h9) | (rw [eb ‹_›] at h9) | skip)
      | (with_reducible exact zn_in (by omega) (by decide))
      | (with_reducible exact z01) | (with_reducible exact z11) | (with_reducible exact zb01 _)
      | (with_reducible exact zn_inb (by omega) (by decide))
      | (with_reducible exact zn_ina (by omega) (by decide))
      | (with_reducible exact zn_inc (by omega) (by decide))
      | ((conv => whnf); first | (with_reducible refine And.intro ?_ ?_) | ((with_reducible intro h9); first | exact absurd h9 (by decide) | (replace h9 := nle f1 (by omega) (by omega) h9) | (replace h9 := yle f1 (by omega) (by omega) h9) | (rw [eb ‹_›] at h9) | skip) | (with_reducible refine hK _ _ _ _ (sm_un ?_)))
    · exact ⟨⟨lo2 0 (Nat.zero_le _) _ _ G1 hx (fun j hj => h1 j (by omega)) (fun v hv => absurd hv (Nat.not_lt_zero _)) (fun j _ => by rw [hu])⟩⟩
    · have hl : i < S 0 0 := by omega
      have hb : Nat.beq (S 1 i) 4 = true := beq_t ‹_›
      have hr := rm_le (S := S) (c := c) i
      have er : rm S c (i + 1) = rm S c i / 4 := by rw [rm, hb]; rfl
      have ew : wd S c i = rm S c i % 4 := by rw [wd, if_pos hl, hb]; rfl
      simp only [nI_add, pk_div (show rm S c i < 2 ^ 31 by omega) (show 0 < 4 by decide) (show 4 < 2 ^ 31 by decide), zn_ir (show rm S c i < 2 ^ 31 by omega) (show 0 < 4 by decide) (show 4 < 2 ^ 31 by decide), zn_clI (show i < 2 ^ 31 by omega), hp_0, hp_1, hp_2, hp_3, hp_4, hp_5, hp_6, hp_7, hp_8, hp_9, hp_10, hp_11, hp_12, hp_13, hp_14, hp_15, hp_16, hp_17, hp_18, hp_19, hp_20, hp_22, hp_23, hp_24, hp_25, hp_26, hp_27, hp_28, hp_29, hp_30, hp_31, hp_32, hp_33, hp_34, hp_35, hp_36, hp_37, hp_38, hp_39, hp_40, hp_41, hp_42, hp_43, hp_44, hp_45, hp_46, hp_47, hp_48, hp_49, hf0_5, hf0_6, hf0_7, hf1_1, hf3_0, hf3_2, hf3_6, hf10_0, hf10_2, hf10_6, hf17_3, hf17_4, hf20_3, hf20_4, hf30_0, hf30_1, hf30_3, hf30_7, hf30_11, hf30_12, hf30_20, hf30_22, hf30_23, hf30_24, hf30_25, hf30_21, hf30_31, upd_su, updL_su, ← er, ← ew]
      refine ⟨⟨ih hl _ _ (eqx_su 39 _ rfl hx) (fun j hj => ?_) (by rw [su_ne _ _ (by decide)]; exact hu)⟩⟩
      rw [su_eq, su_if]
      by_cases hji : j = i
      · subst hji; rw [if_pos rfl]
      · rw [if_neg hji]; exact h1 j (by omega)
    · have hl : i < S 0 0 := by omega
      have hb : Nat.beq (S 1 i) 4 = false := beq_f ‹_›
      have hr := rm_le (S := S) (c := c) i
      have hk := r3 i hl
      have er : rm S c (i + 1) = rm S c i / 1 := by rw [rm, hb, Nat.div_one]; rfl
      have ew : wd S c i = S 1 i := by rw [wd, if_pos hl, hb]; rfl
      have ex : G1 31 i = nI (wd S c i) := by rw [f3 i hl, ew, wI_t (by omega)]
      simp only [nI_add, pk_div (show rm S c i < 2 ^ 31 by omega) (show 0 < 1 by decide) (show 1 < 2 ^ 31 by decide), zn_clI (show i < 2 ^ 31 by omega), hp_0, hp_1, hp_2, hp_3, hp_4, hp_5, hp_6, hp_7, hp_8, hp_9, hp_10, hp_11, hp_12, hp_13, hp_14, hp_15, hp_16, hp_17, hp_18, hp_19, hp_20, hp_22, hp_23, hp_24, hp_25, hp_26, hp_27, hp_28, hp_29, hp_30, hp_31, hp_32, hp_33, hp_34, hp_35, hp_36, hp_37, hp_38, hp_39, hp_40, hp_41, hp_42, hp_43, hp_44, hp_45, hp_46, hp_47, hp_48, hp_49, hf0_5, hf0_6, hf0_7, hf1_1, hf3_0, hf3_2, hf3_6, hf10_0, hf10_2, hf10_6, hf17_3, hf17_4, hf20_3, hf20_4, hf30_0, hf30_1, hf30_3, hf30_7, hf30_11, hf30_12, hf30_20, hf30_22, hf30_23, hf30_24, hf30_25, hf30_21, hf30_31, upd_su, updL_su, ← er, ex]
      refine ⟨⟨ih hl _ _ (eqx_su 39 _ rfl hx) (fun j hj => ?_) (by rw [su_ne _ _ (by decide)]; exact hu)⟩⟩
      rw [su_eq, su_if]
      by_cases hji : j = i
      · subst hji; rw [if_pos rfl]
      · rw [if_neg hji]; exact h1 j (by omega)
  refine sm_body [4] 40 sm_k103 (fun CT K hC hK => ?_)
  repeat' first
    | (with_reducible refine And.intro ?_ ?_)
    | ((with_reducible intro h9); first | exact absurd h9 (by decide) | skip)
    | (with_reducible exact zn_in (by omega) (by decide))
    | (with_reducible exact z01) | (with_reducible exact z11) | (with_reducible exact zb01 _)
    | (with_reducible exact zn_inb (by omega) (by decide))
    | (with_reducible exact zn_ina (by omega) (by decide))
    | (with_reducible exact zn_inc (by omega) (by decide))
    | ((conv => whnf); first | (with_reducible refine And.intro ?_ ?_) | ((with_reducible intro h9); first | exact absurd h9 (by decide) | skip) | (with_reducible refine hK _ _ _ _ (sm_un ?_)))
  exact ⟨⟨lo 0 (Nat.zero_le _) _ G eqx_rfl (fun j hj => absurd hj (Nat.not_lt_zero _)) rfl⟩⟩
/-- all that stands in pointsAt is a quarter -/
def pA (G : Nat → Nat → Int32) : Prop := ∀ k, k < 24 → ∃ q, q < 4 ∧ G 40 k = nI q
/-- what the other one's day looks like, a code laid -/
def ld (S : Nat → Nat → Nat) (c : Nat) (G : Nat → Nat → Int32) : Prop := (∀ h, h < S 0 0 → G 39 h = nI (wd S c h)) ∧ (∀ v, v < S 0 1 → ∀ h, h < S 0 0 → G 40 (6 * v + h) = nI (ps S (wd S c) v (h + 1)))
set_option maxRecDepth 100000 in
set_option maxHeartbeats 4000000 in
theorem s_fits (hC : sm_C 5 CT) (hD : mD S G) (hR : dR S) (hS : mS S G) (hN : nR S) {c : Nat} (hc : c < 2 ^ 31)
    (hQ : ∀ G', eqx [39, 40] G G' → ld S c G' → (pA G → pA G') → Q (some (.int (sm_b (ft S (wd S c))))) (hp G' L)) : CT 105 [.ref 30, .int (nI c)] (hp G L) Q := by
  have hR' := hR
  obtain ⟨r1, r2, r3, r4⟩ := hR'
  obtain ⟨n1, n2⟩ := hN
  have p4 : ∀ v, v < S 0 1 → ∀ i, ps S (wd S c) v i < 4 := fun v hv i => ps_lt (r4 v hv).2.1 i (fun j hj => wd_lt hR c j)
  refine sm_meth hC [some (.ref 30), some (.int (nI c)), none, none] rfl rfl rfl ?_
  have lo : ∀ i, i ≤ S 0 2 → ∀ G1 b, eqx [39, 40] G G1 → ld S c G1 → (pA G → pA G1) → b = decide (∀ k, k < i → ps S (wd S c) (S 6 k) (S 7 k + 1) = S 8 k) → sm_Wk 4 105 Q none 9 [some (.ref 30), some (.int (nI c)), some (.int (sm_b b)), some (.int (nI i))] [] (hp G1 L) := by
    refine up _ (fun i hi ih G1 b hx hl hpa hb => ?_)
    obtain ⟨f1, f2⟩ := mS_x hx rfl hS
    have hl2 := hl.2
    refine sm_body [9] 60 sm_k105 (fun CT K hC hK => ?_)
    have eb : i < S 0 2 → (nI 6 * G1 35 (nI i).toNatClampNeg + G1 36 (nI i).toNatClampNeg = nI (6 * S 6 i + S 7 i)) := by
      intro hl
      rw [zn_clI (by omega), (f2 i hl).1, (f2 i hl).2.1, pk_mul, nI_add]
    have ei : i < S 0 2 → sm_in (nI (6 * S 6 i + S 7 i)) 24 := fun hl => by
      have := n2 i hl
      exact zn_in (by omega) (by decide)
    have ee : i < S 0 2 → (G1 40 (nI (6 * S 6 i + S 7 i)).toNatClampNeg = G1 37 (nI i).toNatClampNeg ↔ ps S (wd S c) (S 6 i) (S 7 i + 1) = S 8 i) := by
      intro hl
      have := n2 i hl
      rw [zn_clI (by omega), zn_clI (by omega), (f2 i hl).2.2, hl2 _ this.1 _ this.2.1, nI_eq (by have := p4 _ this.1 (S 7 i + 1); omega) (by omega)]
    repeat' first
      | (with_reducible refine And.intro ?_ ?_)
      | ((with_reducible intro h9); first | exact absurd h9 (by decide) | (replace h9 := nle f1 (by omega) (by omega) h9) | (replace h9 := yle f1 (by omega) (by omega) h9) | (rw [eb ‹_›, ee ‹_›] at h9) | (replace h9 := sb_f h9) | (replace h9 := sb_t h9) | skip)
      | (with_reducible exact zn_in (by omega) (by decide))
      | (with_reducible exact z01) | (with_reducible exact z11) | (with_reducible exact zb01 _)
      | (with_reducible exact zn_inb (by omega) (by decide))
      | (with_reducible exact zn_ina (by omega) (by decide))
      | (with_reducible exact zn_inc (by omega) (by decide))
      | ((conv => whnf); first | (with_reducible refine And.intro ?_ ?_) | ((with_reducible intro h9); first | exact absurd h9 (by decide) | (replace h9 := nle f1 (by omega) (by omega) h9) | (replace h9 := yle f1 (by omega) (by omega) h9) | (rw [eb ‹_›, ee ‹_›] at h9) | (replace h9 := sb_f h9) | (replace h9 := sb_t h9) | skip) | (with_reducible refine hK _ _ _ _ (sm_un ?_)) | (rw [eb ‹_›]; exact ei ‹_›))
    · obtain rfl : i = S 0 2 := by omega
      subst hb
      exact hQ G1 hx hl hpa
    · simp only [nI_add]; exact ⟨⟨ih ‹_› G1 false hx hl hpa (by rw [h9] at hb; refine (decide_eq_false (fun z => ?_)).symm; exact absurd hb.symm (by rw [decide_eq_true (fun k hk => z k (by omega))]; decide))⟩⟩
    · simp only [nI_add]; exact ⟨⟨ih ‹_› G1 false hx hl hpa (decide_eq_false (fun z => h9 (z i (by omega)))).symm⟩⟩
    · have hb' : b = true := ‹b = true›
      rw [hb'] at hb
      have hz := of_decide_eq_true hb.symm
      simp only [nI_add]; exact ⟨⟨ih ‹_› G1 true hx hl hpa (decide_eq_true (fun k hk => if e : k = i then (by subst e; exact h9) else hz k (by omega))).symm⟩⟩
  refine sm_body [9] 40 sm_k105 (fun CT K hC hK => ?_)
  repeat' first
    | (with_reducible refine And.intro ?_ ?_)
    | ((with_reducible intro h9); first | exact absurd h9 (by decide) | skip)
    | (with_reducible exact zn_in (by omega) (by decide))
    | (with_reducible exact z01) | (with_reducible exact z11) | (with_reducible exact zb01 _)
    | (with_reducible exact zn_inb (by omega) (by decide))
    | (with_reducible exact zn_ina (by omega) (by decide))
    | (with_reducible exact zn_inc (by omega) (by decide))
    | ((conv => whnf); first | (with_reducible refine And.intro ?_ ?_) | ((with_reducible intro h9); first | exact absurd h9 (by decide) | skip) | (with_reducible refine hK _ _ _ _ (sm_un ?_)) | (with_reducible refine s_layDay (hC.mono (by omega)) hD hR hc (fun G1 hx h1 h2 h3 => ?_)))
  refine ⟨⟨lo 0 (Nat.zero_le _) G1 true hx ⟨h1, h2⟩ (fun hp k hk => ?_) (decide_eq_true (fun k hk => absurd hk (Nat.not_lt_zero _))).symm⟩⟩
  by_cases hc : k % 6 < S 0 0 ∧ k / 6 < S 0 1
  · have e := h2 (k / 6) hc.2 (k % 6) hc.1
    rw [show 6 * (k / 6) + k % 6 = k by omega] at e
    exact ⟨_, p4 _ hc.2 _, e⟩
  · rw [h3 k (by omega)]
    exact hp k hk
theorem bq_step {c : Nat → Nat} {p : Nat} (hp : p < 4) : bq 4 c ||| 2 ^ p = bq 4 (fun q => c q + bn (Nat.beq p q)) := by
  have key : ∀ b0 b1 b2 b3 : Bool, ∀ p, p < 4 → (cond b0 1 0 + cond b1 2 0 + cond b2 4 0 + cond b3 8 0) ||| 2 ^ p = (cond (b0 || Nat.beq p 0) 1 0 + cond (b1 || Nat.beq p 1) 2 0 + cond (b2 || Nat.beq p 2) 4 0 + cond (b3 || Nat.beq p 3) 8 0) := by decide
  have e1 : ∀ c : Nat → Nat, bq 4 c = cond (decide (0 < c 0)) 1 0 + cond (decide (0 < c 1)) 2 0 + cond (decide (0 < c 2)) 4 0 + cond (decide (0 < c 3)) 8 0 := by
    intro c
    simp only [bq, Nat.zero_add]
    by_cases h0 : 0 < c 0 <;> by_cases h1 : 0 < c 1 <;> by_cases h2 : 0 < c 2 <;> by_cases h3 : 0 < c 3 <;> simp [h0, h1, h2, h3]
  have e2 : ∀ q, decide (0 < c q + bn (Nat.beq p q)) = (decide (0 < c q) || Nat.beq p q) := by
    intro q
    cases Nat.beq p q with
    | true => rw [bn_t rfl]; simp
    | false => rw [bn_f rfl]; simp
  rw [e1, e1, key _ _ _ _ p hp]
  simp only [e2]
theorem aAll_codes {S : Nat → Nat → Nat} (hR : dR S) : aAll S = sg (nc S) (fun c => bn (ft S (wd S c))) := by
  unfold aAll
  rw [cnt_codes hR]
  apply sg_congr
  intro c _
  rw [Bool.and_true]
set_option maxRecDepth 100000 in
set_option maxHeartbeats 4000000 in
theorem s_fittingNow (hC : sm_C 6 CT) (hD : mD S G) (hR : dR S) (hS : mS S G) (hN : nR S)
    (hQ : ∀ G', eqx [39, 40] G G' → (pA G → pA G') → Q (some (.int (nI (aAll S)))) (hp G' L)) : CT 106 [.ref 30] (hp G L) Q := by
  have hnc := nc_le hR
  refine sm_meth hC [some (.ref 30), none, none] rfl rfl rfl ?_
  have lo : ∀ i, i ≤ nc S → ∀ G1, eqx [39, 40] G G1 → (pA G → pA G1) → sm_Wk 5 106 Q none 4 [some (.ref 30), some (.int (nI (sg i (fun c => bn (ft S (wd S c)))))), some (.int (nI i))] [] (hp G1 L) := by
    refine up _ (fun i hi ih G1 hx hpa => ?_)
    have hD1 := mD_x hx rfl hD
    have hS1 := mS_x hx rfl hS
    refine sm_body [4] 60 sm_k106 (fun CT K hC hK => ?_)
    repeat' first
      | (with_reducible refine And.intro ?_ ?_)
      | ((with_reducible intro h9); first | exact absurd h9 (by decide) | (replace h9 := zle (by omega) (by omega) h9) | (replace h9 := znle (by omega) (by omega) h9) | (replace h9 := sb_f h9) | (replace h9 := sb_t h9) | skip)
      | (with_reducible exact zn_in (by omega) (by decide))
      | (with_reducible exact z01) | (with_reducible exact z11) | (with_reducible exact zb01 _)
      | (with_reducible exact zn_inb (by omega) (by decide))
      | (with_reducible exact zn_ina (by omega) (by decide))
      | (with_reducible exact zn_inc (by omega) (by decide))
      | ((conv => whnf); first | (with_reducible refine And.intro ?_ ?_) | ((with_reducible intro h9); first | exact absurd h9 (by decide) | (replace h9 := zle (by omega) (by omega) h9) | (replace h9 := znle (by omega) (by omega) h9) | (replace h9 := sb_f h9) | (replace h9 := sb_t h9) | skip) | (with_reducible refine hK _ _ _ _ (sm_un ?_)) | (with_reducible refine s_codes (hC.mono (by omega)) hD1 hR ?_) | (with_reducible refine s_fits (hC.mono (by omega)) hD1 hR hS1 hN (by omega) (fun G2 hx2 hl2 hp2 => ?_)))
    · obtain rfl : i = nc S := by omega
      rw [← aAll_codes hR]
      exact hQ G1 hx hpa
    · have e := ih ‹_› G2 (eqx_trans hx hx2) (fun z => hp2 (hpa z))
      rw [sg, bn_f h9] at e
      simp only [nI_add]; exact ⟨⟨e⟩⟩
    · have e := ih ‹_› G2 (eqx_trans hx hx2) (fun z => hp2 (hpa z))
      rw [sg, bn_t h9] at e
      simp only [nI_add]; exact ⟨⟨e⟩⟩
  refine sm_body [4] 40 sm_k106 (fun CT K hC hK => ?_)
  repeat' first
    | (with_reducible refine And.intro ?_ ?_)
    | ((with_reducible intro h9); first | exact absurd h9 (by decide) | skip)
    | (with_reducible exact zn_in (by omega) (by decide))
    | (with_reducible exact z01) | (with_reducible exact z11) | (with_reducible exact zb01 _)
    | (with_reducible exact zn_inb (by omega) (by decide))
    | (with_reducible exact zn_ina (by omega) (by decide))
    | (with_reducible exact zn_inc (by omega) (by decide))
    | ((conv => whnf); first | (with_reducible refine And.intro ?_ ?_) | ((with_reducible intro h9); first | exact absurd h9 (by decide) | skip) | (with_reducible refine hK _ _ _ _ (sm_un ?_)))
  exact ⟨⟨lo 0 (Nat.zero_le _) G eqx_rfl (fun z => z)⟩⟩
end MODEL
end
section
/-! The other one's points, blows, parts, ask. -/
def cpt (S : Nat → Nat → Nat) (v h q i : Nat) : Nat := sg i (fun c => bn (ft S (wd S c) && Nat.beq (ps S (wd S c) v (h + 1)) q))
def cbl (S : Nat → Nat → Nat) (h q i : Nat) : Nat := sg i (fun c => bn (ft S (wd S c) && Nat.beq (wd S c h) q))
theorem aPt_codes {S : Nat → Nat → Nat} (hR : dR S) {v h q : Nat} : aPt S v h q = cpt S v h q (nc S) := cnt_codes hR _
theorem aBl_codes {S : Nat → Nat → Nat} (hR : dR S) {h q : Nat} : aBl S h q = cbl S h q (nc S) := cnt_codes hR _
theorem cpt_t {S : Nat → Nat → Nat} {v h q i : Nat} (e : ft S (wd S i) = true) : cpt S v h q (i + 1) = cpt S v h q i + bn (Nat.beq (ps S (wd S i) v (h + 1)) q) := by
  show _ + bn (_ && _) = _
  rw [e]
  rfl
theorem cpt_f {S : Nat → Nat → Nat} {v h q i : Nat} (e : ft S (wd S i) = false) : cpt S v h q (i + 1) = cpt S v h q i := by
  show _ + bn (_ && _) = _
  rw [e]
  rfl
theorem cbl_t {S : Nat → Nat → Nat} {h q i : Nat} (e : ft S (wd S i) = true) : cbl S h q (i + 1) = cbl S h q i + bn (Nat.beq (wd S i h) q) := by
  show _ + bn (_ && _) = _
  rw [e]
  rfl
theorem cbl_f {S : Nat → Nat → Nat} {h q i : Nat} (e : ft S (wd S i) = false) : cbl S h q (i + 1) = cbl S h q i := by
  show _ + bn (_ && _) = _
  rw [e]
  rfl
theorem ps_lt4 {S : Nat → Nat → Nat} (hR : dR S) {v : Nat} (hv : v < S 0 1) (c i : Nat) : ps S (wd S c) v i < 4 := ps_lt (hR.2.2.2 v hv).2.1 i (fun j _ => wd_lt hR c j)
section PARTS
variable {CT : sm_CT} {G : Nat → Nat → Int32} {L : Nat → Nat → Int64} {Q : sm_Q} {S : Nat → Nat → Nat} {h : sm_H}
set_option maxRecDepth 100000 in
set_option maxHeartbeats 4000000 in
theorem s_pointsNow (hC : sm_C 6 CT) (hD : mD S G) (hR : dR S) (hS : mS S G) (hN : nR S) {v h : Nat} (hv : v < S 0 1) (hh : h < S 0 0)
    (hQ : ∀ G', eqx [39, 40] G G' → (pA G → pA G') → Q (some (.int (nI (bq 4 (aPt S v h))))) (hp G' L)) : CT 108 [.ref 30, .int (nI v), .int (nI h)] (hp G L) Q := by
  have hnc := nc_le hR
  have hR' := hR
  obtain ⟨r1, r2, r3, r4⟩ := hR'
  refine sm_meth hC [some (.ref 30), some (.int (nI v)), some (.int (nI h)), none, none] rfl rfl rfl ?_
  have lo : ∀ i, i ≤ nc S → ∀ G1, eqx [39, 40] G G1 → (pA G → pA G1) → sm_Wk 5 108 Q none 5 [some (.ref 30), some (.int (nI v)), some (.int (nI h)), some (.int (nI (bq 4 (fun q => cpt S v h q i)))), some (.int (nI i))] [] (hp G1 L) := by
    refine up _ (fun i hi ih G1 hx hpa => ?_)
    have hD1 := mD_x hx rfl hD
    have hS1 := mS_x hx rfl hS
    refine sm_body [5] 60 sm_k108 (fun CT K hC hK => ?_)
    repeat' first
      | (with_reducible refine And.intro ?_ ?_)
      | ((with_reducible intro h9); first | exact absurd h9 (by decide) | (replace h9 := zle (by omega) (by omega) h9) | (replace h9 := znle (by omega) (by omega) h9) | (replace h9 := sb_f h9) | (replace h9 := sb_t h9) | skip)
      | (with_reducible exact zn_in (by omega) (by decide))
      | (with_reducible exact z01) | (with_reducible exact z11) | (with_reducible exact zb01 _)
      | (with_reducible exact zn_inb (by omega) (by decide))
      | (with_reducible exact zn_ina (by omega) (by decide))
      | (with_reducible exact zn_inc (by omega) (by decide))
      | ((conv => whnf); first | (with_reducible refine And.intro ?_ ?_) | ((with_reducible intro h9); first | exact absurd h9 (by decide) | (replace h9 := zle (by omega) (by omega) h9) | (replace h9 := znle (by omega) (by omega) h9) | (replace h9 := sb_f h9) | (replace h9 := sb_t h9) | skip) | (with_reducible refine hK _ _ _ _ (sm_un ?_)) | (with_reducible refine s_codes (hC.mono (by omega)) hD1 hR ?_) | (with_reducible refine s_fits (hC.mono (by omega)) hD1 hR hS1 hN (by omega) (fun G2 hx2 hl2 hp2 => ?_)))
    · obtain rfl : i = nc S := by omega
      have : (fun q => cpt S v h q (nc S)) = aPt S v h := funext (fun q => (aPt_codes hR).symm)
      rw [this]
      exact hQ G1 hx hpa
    · have e := ih ‹_› G2 (eqx_trans hx hx2) (fun z => hp2 (hpa z))
      simp only [cpt_f h9] at e
      simp only [nI_add, zn_or, Nat.or_zero]
      exact ⟨⟨e⟩⟩
    · have e := ih ‹_› G2 (eqx_trans hx hx2) (fun z => hp2 (hpa z))
      simp only [cpt_t h9] at e
      have h4 := ps_lt4 hR hv i (h + 1)
      rw [← bq_step h4] at e
      simp only [pk_mul, nI_add, zn_clI (show 6 * v + h < 2 ^ 31 by omega), hl2.2 v hv h hh, zn_shl (show ps S (wd S i) v (h + 1) < 32 by omega), Nat.one_mul, zn_or]
      exact ⟨⟨e⟩⟩
  refine sm_body [5] 40 sm_k108 (fun CT K hC hK => ?_)
  repeat' first
    | (with_reducible refine And.intro ?_ ?_)
    | ((with_reducible intro h9); first | exact absurd h9 (by decide) | skip)
    | (with_reducible exact zn_in (by omega) (by decide))
    | (with_reducible exact z01) | (with_reducible exact z11) | (with_reducible exact zb01 _)
    | (with_reducible exact zn_inb (by omega) (by decide))
    | (with_reducible exact zn_ina (by omega) (by decide))
    | (with_reducible exact zn_inc (by omega) (by decide))
    | ((conv => whnf); first | (with_reducible refine And.intro ?_ ?_) | ((with_reducible intro h9); first | exact absurd h9 (by decide) | skip) | (with_reducible refine hK _ _ _ _ (sm_un ?_)))
  exact ⟨⟨lo 0 (Nat.zero_le _) G eqx_rfl (fun z => z)⟩⟩
set_option maxRecDepth 100000 in
set_option maxHeartbeats 4000000 in
theorem s_blowsNow (hC : sm_C 6 CT) (hD : mD S G) (hR : dR S) (hS : mS S G) (hN : nR S) {h : Nat} (hh : h < S 0 0)
    (hQ : ∀ G', eqx [39, 40] G G' → (pA G → pA G') → Q (some (.int (nI (bq 4 (aBl S h))))) (hp G' L)) : CT 110 [.ref 30, .int (nI h)] (hp G L) Q := by
  have hnc := nc_le hR
  have hR' := hR
  obtain ⟨r1, r2, r3, r4⟩ := hR'
  refine sm_meth hC [some (.ref 30), some (.int (nI h)), none, none] rfl rfl rfl ?_
  have lo : ∀ i, i ≤ nc S → ∀ G1, eqx [39, 40] G G1 → (pA G → pA G1) → sm_Wk 5 110 Q none 4 [some (.ref 30), some (.int (nI h)), some (.int (nI (bq 4 (fun q => cbl S h q i)))), some (.int (nI i))] [] (hp G1 L) := by
    refine up _ (fun i hi ih G1 hx hpa => ?_)
    have hD1 := mD_x hx rfl hD
    have hS1 := mS_x hx rfl hS
    refine sm_body [4] 60 sm_k110 (fun CT K hC hK => ?_)
    repeat' first
      | (with_reducible refine And.intro ?_ ?_)
      | ((with_reducible intro h9); first | exact absurd h9 (by decide) | (replace h9 := zle (by omega) (by omega) h9) | (replace h9 := znle (by omega) (by omega) h9) | (replace h9 := sb_f h9) | (replace h9 := sb_t h9) | skip)
      | (with_reducible exact zn_in (by omega) (by decide))
      | (with_reducible exact z01) | (with_reducible exact z11) | (with_reducible exact zb01 _)
      | (with_reducible exact zn_inb (by omega) (by decide))
      | (with_reducible exact zn_ina (by omega) (by decide))
      | (with_reducible exact zn_inc (by omega) (by decide))
      | ((conv => whnf); first | (with_reducible refine And.intro ?_ ?_) | ((with_reducible intro h9); first | exact absurd h9 (by decide) | (replace h9 := zle (by omega) (by omega) h9) | (replace h9 := znle (by omega) (by omega) h9) | (replace h9 := sb_f h9) | (replace h9 := sb_t h9) | skip) | (with_reducible refine hK _ _ _ _ (sm_un ?_)) | (with_reducible refine s_codes (hC.mono (by omega)) hD1 hR ?_) | (with_reducible refine s_fits (hC.mono (by omega)) hD1 hR hS1 hN (by omega) (fun G2 hx2 hl2 hp2 => ?_)))
    · obtain rfl : i = nc S := by omega
      have : (fun q => cbl S h q (nc S)) = aBl S h := funext (fun q => (aBl_codes hR).symm)
      rw [this]
      exact hQ G1 hx hpa
    · have e := ih ‹_› G2 (eqx_trans hx hx2) (fun z => hp2 (hpa z))
      simp only [cbl_f h9] at e
      simp only [nI_add, zn_or, Nat.or_zero]
      exact ⟨⟨e⟩⟩
    · have e := ih ‹_› G2 (eqx_trans hx hx2) (fun z => hp2 (hpa z))
      simp only [cbl_t h9] at e
      have h4 := wd_lt hR i h
      rw [← bq_step h4] at e
      simp only [nI_add, zn_clI (show h < 2 ^ 31 by omega), hl2.1 h hh, zn_shl (show wd S i h < 32 by omega), Nat.one_mul, zn_or]
      exact ⟨⟨e⟩⟩
  refine sm_body [4] 40 sm_k110 (fun CT K hC hK => ?_)
  repeat' first
    | (with_reducible refine And.intro ?_ ?_)
    | ((with_reducible intro h9); first | exact absurd h9 (by decide) | skip)
    | (with_reducible exact zn_in (by omega) (by decide))
    | (with_reducible exact z01) | (with_reducible exact z11) | (with_reducible exact zb01 _)
    | (with_reducible exact zn_inb (by omega) (by decide))
    | (with_reducible exact zn_ina (by omega) (by decide))
    | (with_reducible exact zn_inc (by omega) (by decide))
    | ((conv => whnf); first | (with_reducible refine And.intro ?_ ?_) | ((with_reducible intro h9); first | exact absurd h9 (by decide) | skip) | (with_reducible refine hK _ _ _ _ (sm_un ?_)))
  exact ⟨⟨lo 0 (Nat.zero_le _) G eqx_rfl (fun z => z)⟩⟩
set_option maxRecDepth 100000 in
set_option maxHeartbeats 4000000 in
theorem s_anyFits (hC : sm_C 6 CT) (hD : mD S G) (hR : dR S) (hS : mS S G) (hN : nR S)
    (hQ : ∀ G', eqx [39, 40] G G' → (pA G → pA G') → Q (some (.int (sm_b (decide (0 < aAll S))))) (hp G' L)) : CT 122 [.ref 30] (hp G L) Q := by
  have hnc := nc_le hR
  refine sm_meth hC [some (.ref 30), none] rfl rfl rfl ?_
  have lo : ∀ i, i ≤ nc S → ∀ G1, eqx [39, 40] G G1 → (pA G → pA G1) → sg i (fun c => bn (ft S (wd S c))) = 0 → sm_Wk 5 122 Q none 2 [some (.ref 30), some (.int (nI i))] [] (hp G1 L) := by
    refine up _ (fun i hi ih G1 hx hpa hz => ?_)
    have hD1 := mD_x hx rfl hD
    have hS1 := mS_x hx rfl hS
    refine sm_body [2] 60 sm_k122 (fun CT K hC hK => ?_)
    repeat' first
      | (with_reducible refine And.intro ?_ ?_)
      | ((with_reducible intro h9); first | exact absurd h9 (by decide) | (replace h9 := zle (by omega) (by omega) h9) | (replace h9 := znle (by omega) (by omega) h9) | (replace h9 := sb_f h9) | (replace h9 := sb_t h9) | skip)
      | (with_reducible exact zn_in (by omega) (by decide))
      | (with_reducible exact z01) | (with_reducible exact z11) | (with_reducible exact zb01 _)
      | (with_reducible exact zn_inb (by omega) (by decide))
      | (with_reducible exact zn_ina (by omega) (by decide))
      | (with_reducible exact zn_inc (by omega) (by decide))
      | ((conv => whnf); first | (with_reducible refine And.intro ?_ ?_) | ((with_reducible intro h9); first | exact absurd h9 (by decide) | (replace h9 := zle (by omega) (by omega) h9) | (replace h9 := znle (by omega) (by omega) h9) | (replace h9 := sb_f h9) | (replace h9 := sb_t h9) | skip) | (with_reducible refine hK _ _ _ _ (sm_un ?_)) | (with_reducible refine s_codes (hC.mono (by omega)) hD1 hR ?_) | (with_reducible refine s_fits (hC.mono (by omega)) hD1 hR hS1 hN (by omega) (fun G2 hx2 hl2 hp2 => ?_)))
    · obtain rfl : i = nc S := by omega
      exact zq (dc_f (by rw [aAll_codes hR, hz]; omega)) (hQ G1 hx hpa)
    · simp only [nI_add]; exact ⟨⟨ih ‹_› G2 (eqx_trans hx hx2) (fun z => hp2 (hpa z)) (by rw [sg, hz, bn_f h9])⟩⟩
    · refine zq (dc_t ?_) (hQ G2 (eqx_trans hx hx2) (fun z => hp2 (hpa z)))
      rw [aAll_codes hR]
      have : ∀ n, i < n → 0 < sg n (fun c => bn (ft S (wd S c))) := by
        intro n
        induction n with
        | zero => intro hn; omega
        | succ n ih =>
          intro hn
          show 0 < sg n _ + bn (ft S (wd S n))
          by_cases e : i = n
          · subst e; rw [bn_t h9]; omega
          · have := ih (by omega); omega
      exact this _ ‹_›
  refine sm_body [2] 40 sm_k122 (fun CT K hC hK => ?_)
  repeat' first
    | (with_reducible refine And.intro ?_ ?_)
    | ((with_reducible intro h9); first | exact absurd h9 (by decide) | skip)
    | (with_reducible exact zn_in (by omega) (by decide))
    | (with_reducible exact z01) | (with_reducible exact z11) | (with_reducible exact zb01 _)
    | (with_reducible exact zn_inb (by omega) (by decide))
    | (with_reducible exact zn_ina (by omega) (by decide))
    | (with_reducible exact zn_inc (by omega) (by decide))
    | ((conv => whnf); first | (with_reducible refine And.intro ?_ ?_) | ((with_reducible intro h9); first | exact absurd h9 (by decide) | skip) | (with_reducible refine hK _ _ _ _ (sm_un ?_)))
  exact ⟨⟨lo 0 (Nat.zero_le _) G eqx_rfl (fun z => z) rfl⟩⟩
set_option maxRecDepth 100000 in
set_option maxHeartbeats 4000000 in
theorem s_layParts (hC : sm_C 6 CT) (hD : mD S G) (hR : dR S) (hS : mS S G) (hN : nR S) (hP : pA G)
    (hQ : ∀ G', eqx [39, 40, 41] G G' → pA G' → (∀ k, k < 6 * S 0 1 → k % 6 < S 0 0 → ∀ q, q < 4 → G' 41 (24 * q + k) = nI (aPt S (k / 6) (k % 6) q)) → Q (some (.int (nI (aAll S)))) (hp G' L)) : CT 112 [.ref 30] (hp G L) Q := by
  have hnc := nc_le hR
  have hR' := hR
  obtain ⟨r1, r2, r3, r4⟩ := hR'
  refine sm_meth hC [some (.ref 30), none, none, none] rfl rfl rfl ?_
  have lo : ∀ i, i ≤ nc S → ∀ o3 G1, eqx [39, 40, 41] G G1 → pA G1 → (∀ k, k < 6 * S 0 1 → k % 6 < S 0 0 → ∀ q, q < 4 → G1 41 (24 * q + k) = nI (cpt S (k / 6) (k % 6) q i)) → sm_Wk 5 112 Q none 25 [some (.ref 30), some (.int (nI (sg i (fun c => bn (ft S (wd S c)))))), some (.int (nI i)), o3] [] (hp G1 L) := by
    refine up _ (fun i hi ih o3 G1 hx hpa hk => ?_)
    have hD1 := mD_x hx rfl hD
    have hS1 := mS_x hx rfl hS
    have inner : i < nc S → ft S (wd S i) = true → ∀ G2, eqx [39, 40] G1 G2 → ld S i G2 → pA G2 → ∀ j, j ≤ 6 * S 0 1 → ∀ G3, eqx [41] G2 G3 → (∀ k, k < 6 * S 0 1 → k % 6 < S 0 0 → ∀ q, q < 4 → G3 41 (24 * q + k) = nI (cpt S (k / 6) (k % 6) q i + (if k < j then bn (Nat.beq (ps S (wd S i) (k / 6) (k % 6 + 1)) q) else 0))) → sm_Wk 5 112 Q none 46 [some (.ref 30), some (.int (nI (sg (i + 1) (fun c => bn (ft S (wd S c)))))), some (.int (nI i)), some (.int (nI j))] [] (hp G3 L) := by
      intro hl hft G2 hx2 hl2 hp2
      refine up _ (fun j hj ihj G3 hx3 hk3 => ?_)
      have f2 : nI 6 * G3 30 3 = nI (6 * S 0 1) := by rw [hx3 30 rfl, hx2 30 rfl, mD_v hD1, pk_mul]
      have f1 : G3 30 1 = nI (S 0 0) := by rw [hx3 30 rfl, hx2 30 rfl, mD_h hD1]
      have hp3 : pA G3 := by unfold pA; rw [hx3 40 rfl]; exact hp2
      refine sm_body [25, 46] 80 sm_k112 (fun CT K hC hK => ?_)
      have ei : j < 6 * S 0 1 → ∃ p, p < 4 ∧ nI 24 * G3 40 (nI j).toNatClampNeg + nI j = nI (24 * p + j) ∧ (j % 6 < S 0 0 → p = ps S (wd S i) (j / 6) (j % 6 + 1)) := by
        intro hj2
        obtain ⟨p, h4, e⟩ := hp3 j (by omega)
        refine ⟨p, h4, ?_, fun hm => ?_⟩
        · rw [zn_clI (by omega), e, pk_mul, nI_add]
        · have e2 := hl2.2 (j / 6) (by omega) (j % 6) hm
          rw [show 6 * (j / 6) + j % 6 = j by omega, ← hx3 40 rfl, e] at e2
          have := ps_lt4 hR (show j / 6 < S 0 1 by omega) i (j % 6 + 1)
          exact zeq (by omega) (by omega) e2
      have e6 : sm_ir (nI j) (nI 6) = nI (j % 6) := zn_ir (by omega) (by decide) (by decide)
      repeat' first
        | (with_reducible refine And.intro ?_ ?_)
        | ((with_reducible intro h9); first | exact absurd h9 (by decide) | (replace h9 := nle f2 (by omega) (by omega) h9) | (replace h9 := yle f2 (by omega) (by omega) h9) | ((rw [e6] at h9; replace h9 := yle f1 (by omega) (by omega) h9)) | ((rw [e6] at h9; replace h9 := nle f1 (by omega) (by omega) h9)) | skip)
        | (with_reducible exact zn_in (by omega) (by decide))
        | (with_reducible exact z01) | (with_reducible exact z11) | (with_reducible exact zb01 _)
        | (with_reducible exact zn_inb (by omega) (by decide))
        | (with_reducible exact zn_ina (by omega) (by decide))
        | (with_reducible exact zn_inc (by omega) (by decide))
        | ((conv => whnf); first | (with_reducible refine And.intro ?_ ?_) | ((with_reducible intro h9); first | exact absurd h9 (by decide) | (replace h9 := nle f2 (by omega) (by omega) h9) | (replace h9 := yle f2 (by omega) (by omega) h9) | ((rw [e6] at h9; replace h9 := yle f1 (by omega) (by omega) h9)) | ((rw [e6] at h9; replace h9 := nle f1 (by omega) (by omega) h9)) | skip) | (with_reducible refine hK _ _ _ _ (sm_un ?_)) | ((obtain ⟨p, h4, e, -⟩ := ei ‹_›; rw [e]; exact zn_in (by omega) (by decide))))
      · obtain rfl : j = 6 * S 0 1 := by omega
        simp only [nI_add]; exact ⟨⟨ih hl _ G3 (eqx_trans hx (eqx_trans (eqx_sub rfl hx2) (eqx_sub rfl hx3))) hp3 (fun k hk1 hk2 q hq => by rw [hk3 k hk1 hk2 q hq, if_pos hk1, cpt_t hft])⟩⟩
      · obtain ⟨p, h4, e, -⟩ := ei ‹_›
        simp only [e, zn_clI (show 24 * p + j < 2 ^ 31 by omega), hp_0, hp_1, hp_2, hp_3, hp_4, hp_5, hp_6, hp_7, hp_8, hp_9, hp_10, hp_11, hp_12, hp_13, hp_14, hp_15, hp_16, hp_17, hp_18, hp_19, hp_20, hp_22, hp_23, hp_24, hp_25, hp_26, hp_27, hp_28, hp_29, hp_30, hp_31, hp_32, hp_33, hp_34, hp_35, hp_36, hp_37, hp_38, hp_39, hp_40, hp_41, hp_42, hp_43, hp_44, hp_45, hp_46, hp_47, hp_48, hp_49, hf0_5, hf0_6, hf0_7, hf1_1, hf3_0, hf3_2, hf3_6, hf10_0, hf10_2, hf10_6, hf17_3, hf17_4, hf20_3, hf20_4, hf30_0, hf30_1, hf30_3, hf30_7, hf30_11, hf30_12, hf30_20, hf30_22, hf30_23, hf30_24, hf30_25, hf30_21, hf30_31, upd_su, updL_su, nI_add]
        refine ⟨⟨ihj ‹_› _ (eqx_su 41 _ rfl hx3) (fun k hk1 hk2 q hq => ?_)⟩⟩
        rw [su_eq, su_if, if_neg (by omega), hk3 k hk1 hk2 q hq]
        congr 2
        by_cases hkj : k < j
        · rw [if_pos hkj, if_pos (by omega)]
        · rw [if_neg hkj, if_neg (by omega)]
      · obtain ⟨p, h4, e, ep⟩ := ei ‹_›
        have ep := ep h9
        simp only [e, zn_clI (show 24 * p + j < 2 ^ 31 by omega), hp_0, hp_1, hp_2, hp_3, hp_4, hp_5, hp_6, hp_7, hp_8, hp_9, hp_10, hp_11, hp_12, hp_13, hp_14, hp_15, hp_16, hp_17, hp_18, hp_19, hp_20, hp_22, hp_23, hp_24, hp_25, hp_26, hp_27, hp_28, hp_29, hp_30, hp_31, hp_32, hp_33, hp_34, hp_35, hp_36, hp_37, hp_38, hp_39, hp_40, hp_41, hp_42, hp_43, hp_44, hp_45, hp_46, hp_47, hp_48, hp_49, hf0_5, hf0_6, hf0_7, hf1_1, hf3_0, hf3_2, hf3_6, hf10_0, hf10_2, hf10_6, hf17_3, hf17_4, hf20_3, hf20_4, hf30_0, hf30_1, hf30_3, hf30_7, hf30_11, hf30_12, hf30_20, hf30_22, hf30_23, hf30_24, hf30_25, hf30_21, hf30_31, upd_su, updL_su, nI_add]
        refine ⟨⟨ihj ‹_› _ (eqx_su 41 _ rfl hx3) (fun k hk1 hk2 q hq => ?_)⟩⟩
        rw [su_eq, su_if]
        by_cases hc : 24 * q + k = 24 * p + j
        · have hkj : k = j := by omega
          have hqp : q = p := by omega
          subst hkj
          subst hqp
          rw [if_pos rfl, hk3 k hk1 hk2 q hq, nI_add, if_neg (by omega), if_pos (by omega), ← ep, beq_t rfl]
          rfl
        · rw [if_neg hc, hk3 k hk1 hk2 q hq]
          congr 2
          by_cases hkj : k < j
          · rw [if_pos hkj, if_pos (by omega)]
          · rw [if_neg hkj]
            by_cases hke : k = j
            · subst hke
              rw [if_pos (by omega), ← ep, beq_f (by omega)]
              rfl
            · rw [if_neg (by omega)]
    refine sm_body [25, 46] 60 sm_k112 (fun CT K hC hK => ?_)
    repeat' first
      | (with_reducible refine And.intro ?_ ?_)
      | ((with_reducible intro h9); first | exact absurd h9 (by decide) | (replace h9 := zle (by omega) (by omega) h9) | (replace h9 := znle (by omega) (by omega) h9) | (replace h9 := sb_f h9) | (replace h9 := sb_t h9) | skip)
      | (with_reducible exact zn_in (by omega) (by decide))
      | (with_reducible exact z01) | (with_reducible exact z11) | (with_reducible exact zb01 _)
      | (with_reducible exact zn_inb (by omega) (by decide))
      | (with_reducible exact zn_ina (by omega) (by decide))
      | (with_reducible exact zn_inc (by omega) (by decide))
      | ((conv => whnf); first | (with_reducible refine And.intro ?_ ?_) | ((with_reducible intro h9); first | exact absurd h9 (by decide) | (replace h9 := zle (by omega) (by omega) h9) | (replace h9 := znle (by omega) (by omega) h9) | (replace h9 := sb_f h9) | (replace h9 := sb_t h9) | skip) | (with_reducible refine hK _ _ _ _ (sm_un ?_)) | (with_reducible refine s_codes (hC.mono (by omega)) hD1 hR ?_) | (with_reducible refine s_fits (hC.mono (by omega)) hD1 hR hS1 hN (by omega) (fun G2 hx2 hl2 hp2 => ?_)))
    · obtain rfl : i = nc S := by omega
      rw [← aAll_codes hR]
      exact hQ G1 hx hpa (fun k hk1 hk2 q hq => by rw [hk k hk1 hk2 q hq, aPt_codes hR])
    · have e := ih ‹_› o3 G2 (eqx_trans hx (eqx_sub rfl hx2)) (hp2 hpa) (fun k hk1 hk2 q hq => by rw [hx2 41 rfl, hk k hk1 hk2 q hq, cpt_f h9])
      rw [sg, bn_f h9] at e
      simp only [nI_add]; exact ⟨⟨e⟩⟩
    · have e := inner ‹_› h9 G2 hx2 hl2 (hp2 hpa) 0 (Nat.zero_le _) G2 eqx_rfl (fun k hk1 hk2 q hq => by rw [hx2 41 rfl, hk k hk1 hk2 q hq, if_neg (by omega), Nat.add_zero])
      rw [sg, bn_t h9] at e
      simp only [nI_add]; exact ⟨⟨e⟩⟩
  have lo0 : ∀ i, i ≤ 96 → ∀ G1, eqx [41] G G1 → (∀ k, k < i → G1 41 k = nI 0) → sm_Wk 5 112 Q none 4 [some (.ref 30), some (.int (nI 0)), some (.int (nI i)), none] [] (hp G1 L) := by
    refine up _ (fun i hi ih G1 hx h1 => ?_)
    refine sm_body [4, 25] 60 sm_k112 (fun CT K hC hK => ?_)
    repeat' first
      | (with_reducible refine And.intro ?_ ?_)
      | ((with_reducible intro h9); first | exact absurd h9 (by decide) | (replace h9 := zle (by omega) (by omega) h9) | (replace h9 := znle (by omega) (by omega) h9) | skip)
      | (with_reducible exact zn_in (by omega) (by decide))
      | (with_reducible exact z01) | (with_reducible exact z11) | (with_reducible exact zb01 _)
      | (with_reducible exact zn_inb (by omega) (by decide))
      | (with_reducible exact zn_ina (by omega) (by decide))
      | (with_reducible exact zn_inc (by omega) (by decide))
      | ((conv => whnf); first | (with_reducible refine And.intro ?_ ?_) | ((with_reducible intro h9); first | exact absurd h9 (by decide) | (replace h9 := zle (by omega) (by omega) h9) | (replace h9 := znle (by omega) (by omega) h9) | skip) | (with_reducible refine hK _ _ _ _ (sm_un ?_)))
    · exact ⟨⟨lo 0 (Nat.zero_le _) _ G1 (eqx_sub rfl hx) (by unfold pA; rw [hx 40 rfl]; exact hP) (fun k hk1 hk2 q hq => h1 _ (by omega))⟩⟩
    · simp only [hp_0, hp_1, hp_2, hp_3, hp_4, hp_5, hp_6, hp_7, hp_8, hp_9, hp_10, hp_11, hp_12, hp_13, hp_14, hp_15, hp_16, hp_17, hp_18, hp_19, hp_20, hp_22, hp_23, hp_24, hp_25, hp_26, hp_27, hp_28, hp_29, hp_30, hp_31, hp_32, hp_33, hp_34, hp_35, hp_36, hp_37, hp_38, hp_39, hp_40, hp_41, hp_42, hp_43, hp_44, hp_45, hp_46, hp_47, hp_48, hp_49, hf0_5, hf0_6, hf0_7, hf1_1, hf3_0, hf3_2, hf3_6, hf10_0, hf10_2, hf10_6, hf17_3, hf17_4, hf20_3, hf20_4, hf30_0, hf30_1, hf30_3, hf30_7, hf30_11, hf30_12, hf30_20, hf30_22, hf30_23, hf30_24, hf30_25, hf30_21, hf30_31, upd_su, updL_su, nI_add, zn_clI (show i < 2 ^ 31 by omega)]
      refine ⟨⟨ih ‹_› _ (eqx_su 41 _ rfl hx) (fun k hk => ?_)⟩⟩
      rw [su_eq, su_if]
      split
      · rfl
      · exact h1 k (by omega)
  refine sm_body [4] 40 sm_k112 (fun CT K hC hK => ?_)
  repeat' first
    | (with_reducible refine And.intro ?_ ?_)
    | ((with_reducible intro h9); first | exact absurd h9 (by decide) | skip)
    | (with_reducible exact zn_in (by omega) (by decide))
    | (with_reducible exact z01) | (with_reducible exact z11) | (with_reducible exact zb01 _)
    | (with_reducible exact zn_inb (by omega) (by decide))
    | (with_reducible exact zn_ina (by omega) (by decide))
    | (with_reducible exact zn_inc (by omega) (by decide))
    | ((conv => whnf); first | (with_reducible refine And.intro ?_ ?_) | ((with_reducible intro h9); first | exact absurd h9 (by decide) | skip) | (with_reducible refine hK _ _ _ _ (sm_un ?_)))
  exact ⟨⟨lo0 0 (Nat.zero_le _) G eqx_rfl (fun k hk => absurd hk (Nat.not_lt_zero _))⟩⟩
set_option maxRecDepth 100000 in
set_option maxHeartbeats 4000000 in
theorem s_worstOf (hC : sm_C 1 CT) {k : Nat} (hk : k < 24) {c : Nat → Nat} (hc : ∀ q, q < 4 → c q < 2 ^ 31) (hG : ∀ q, q < 4 → G 41 (24 * q + k) = nI (c q)) (hQ : Q (some (.int (nI (mq 4 c)))) (hp G L)) : CT 113 [.ref 30, .int (nI k)] (hp G L) Q := by
  refine sm_meth hC [some (.ref 30), some (.int (nI k)), none, none] rfl rfl rfl ?_
  have lo : ∀ i, i ≤ 4 → sm_Wk 0 113 Q none 4 [some (.ref 30), some (.int (nI k)), some (.int (nI (mq i c))), some (.int (nI i))] [] (hp G L) := by
    refine up _ (fun i hi ih => ?_)
    have e0 : i < 4 → G 41 (nI 24 * nI i + nI k).toNatClampNeg = nI (c i) := fun hl => by rw [pk_mul, nI_add, zn_clI (by omega), hG i hl]
    have hm := mq_lt (M := 2 ^ 31) (c := c) (by decide) i (fun q hq => hc q (by omega))
    refine sm_body [4] 80 sm_k113 (fun CT K hC hK => ?_)
    repeat' first
      | (with_reducible refine And.intro ?_ ?_)
      | ((with_reducible intro h9); first | exact absurd h9 (by decide) | (replace h9 := zle (by omega) (by omega) h9) | (replace h9 := znle (by omega) (by omega) h9) | (rw [e0 ‹_›] at h9) | skip)
      | (with_reducible exact zn_in (by omega) (by decide))
      | (with_reducible exact z01) | (with_reducible exact z11) | (with_reducible exact zb01 _)
      | (with_reducible exact zn_inb (by omega) (by decide))
      | (with_reducible exact zn_ina (by omega) (by decide))
      | (with_reducible exact zn_inc (by omega) (by decide))
      | ((conv => whnf); first | (with_reducible refine And.intro ?_ ?_) | ((with_reducible intro h9); first | exact absurd h9 (by decide) | (replace h9 := zle (by omega) (by omega) h9) | (replace h9 := znle (by omega) (by omega) h9) | (rw [e0 ‹_›] at h9) | skip) | (with_reducible refine hK _ _ _ _ (sm_un ?_)) | ((rw [pk_mul, nI_add]; exact zn_in (by omega) (by decide))))
    · obtain rfl : i = 4 := by omega
      exact hQ
    · have := zle (hc i ‹_›) hm h9
      have e := ih ‹_›
      rw [mq, Nat.max_eq_left this] at e
      simp only [nI_add]; exact ⟨⟨e⟩⟩
    · have := znle (hc i ‹_›) hm h9
      have e := ih ‹_›
      rw [mq, Nat.max_eq_right (Nat.le_of_lt this)] at e
      simp only [nI_add, e0 ‹_›]
      exact ⟨⟨e⟩⟩
  refine sm_body [4] 80 sm_k113 (fun CT K hC hK => ?_)
  repeat' first
    | (with_reducible refine And.intro ?_ ?_)
    | ((with_reducible intro h9); first | exact absurd h9 (by decide) | skip)
    | (with_reducible exact zn_in (by omega) (by decide))
    | (with_reducible exact z01) | (with_reducible exact z11) | (with_reducible exact zb01 _)
    | (with_reducible exact zn_inb (by omega) (by decide))
    | (with_reducible exact zn_ina (by omega) (by decide))
    | (with_reducible exact zn_inc (by omega) (by decide))
    | ((conv => whnf); first | (with_reducible refine And.intro ?_ ?_) | ((with_reducible intro h9); first | exact absurd h9 (by decide) | skip) | (with_reducible refine hK _ _ _ _ (sm_un ?_)))
  exact ⟨⟨lo 0 (Nat.zero_le _)⟩⟩
set_option maxRecDepth 100000 in
set_option maxHeartbeats 4000000 in
theorem s_mayAsk (hC : sm_C 1 CT) (e3 : G 30 3 = nI (S 0 1)) (hv : S 0 1 ≤ 4) (ea : G 30 11 = nI (S 0 5)) (ha : S 0 5 ≤ 30) (hQ : Q (some (.int (sm_b (decide (0 < S 0 1 ∧ S 0 5 < 30))))) (hp G L)) : CT 115 [.ref 30] (hp G L) Q := by
  refine sm_meth hC [some (.ref 30)] rfl rfl rfl ?_
  refine sm_body [] 80 sm_k115 (fun CT K hC hK => ?_)
  repeat' first
    | (with_reducible refine And.intro ?_ ?_)
    | ((with_reducible intro h9); first | exact absurd h9 (by decide) | ((rw [e3, nI_leI (by omega) (by omega)] at h9)) | ((rw [ea, nI_leI (by omega) (by omega)] at h9)) | skip)
    | (with_reducible exact zn_in (by omega) (by decide))
    | (with_reducible exact z01) | (with_reducible exact z11) | (with_reducible exact zb01 _)
    | (with_reducible exact zn_inb (by omega) (by decide))
    | (with_reducible exact zn_ina (by omega) (by decide))
    | (with_reducible exact zn_inc (by omega) (by decide))
    | ((conv => whnf); first | (with_reducible refine And.intro ?_ ?_) | ((with_reducible intro h9); first | exact absurd h9 (by decide) | ((rw [e3, nI_leI (by omega) (by omega)] at h9)) | ((rw [ea, nI_leI (by omega) (by omega)] at h9)) | skip) | (with_reducible refine hK _ _ _ _ (sm_un ?_)))
  all_goals first
    | (exact zq (dc_f (by omega)) hQ)
    | (exact zq (dc_t (by omega)) hQ)
/-- the worst of a place to ask for -/
def ws (S : Nat → Nat → Nat) (k : Nat) : Nat := if k % 6 < S 0 0 then mq 4 (aPt S (k / 6) (k % 6)) else 8192
/-- the best place of the first k, its worst -/
def bl (S : Nat → Nat → Nat) : Nat → Nat × Nat
  | 0 => (24, 8192)
  | k + 1 => if ws S k < (bl S k).2 then (k, ws S k) else bl S k
theorem bl_le {S : Nat → Nat → Nat} : ∀ k, (bl S k).2 ≤ 8192
  | 0 => Nat.le_refl _
  | k + 1 => by
    have := bl_le (S := S) k
    rw [bl]
    split
    · show ws S k ≤ 8192
      omega
    · exact this
theorem bl_k {S : Nat → Nat → Nat} : ∀ k, (bl S k).1 < k ∨ (bl S k).1 = 24
  | 0 => Or.inr rfl
  | k + 1 => by
    have := bl_k (S := S) k
    rw [bl]
    split
    · exact Or.inl (Nat.lt_succ_self k)
    · omega
theorem ws_le {S : Nat → Nat → Nat} (hR : dR S) (k : Nat) : ws S k ≤ 8192 := by
  unfold ws
  split
  · have := mq_lt (c := aPt S (k / 6) (k % 6)) (M := 4097) (by decide) 4 (fun q _ => by have := cnt_le hR (fun w => Nat.beq (ps S w (k / 6) (k % 6 + 1)) q); unfold aPt; omega)
    omega
  · exact Nat.le_refl _
theorem bl_lt {S : Nat → Nat → Nat} (hR : dR S) (h0 : 0 < S 0 0) : ∀ k, 0 < k → (bl S k).1 < k
  | 0, h => absurd h (Nat.lt_irrefl _)
  | k + 1, _ => by
    rw [bl]
    split
    · exact Nat.lt_succ_self k
    · rename_i hw
      cases k with
      | zero =>
        exfalso
        apply hw
        show ws S 0 < 8192
        unfold ws
        rw [if_pos (by omega)]
        have := mq_lt (c := aPt S (0 / 6) (0 % 6)) (M := 4097) (by decide) 4 (fun q _ => by have := cnt_le hR (fun w => Nat.beq (ps S w (0 / 6) (0 % 6 + 1)) q); unfold aPt; omega)
        omega
      | succ k => have := bl_lt hR h0 (k + 1) (by omega); omega
def bI (b : Nat) : Int32 := if b < 24 then nI b else -1
/-- what ask answers -/
def askR (S : Nat → Nat → Nat) (j : Nat) : Int32 := if aAll S = 0 then -1 else nI (if j = 0 then (bl S (6 * S 0 1)).1 / 6 else if j = 1 then (bl S (6 * S 0 1)).1 % 6 else (bl S (6 * S 0 1)).2)
set_option maxRecDepth 100000 in
set_option maxHeartbeats 4000000 in
theorem s_askNow (hC : sm_C 7 CT) (hD : mD S G) (hR : dR S) (hS : mS S G) (hN : nR S) (hP : pA G) (hv : 0 < S 0 1) (h0 : 0 < S 0 0) {j : Nat} (hj : j < 3)
    (hQ : ∀ G', eqx [39, 40, 41] G G' → pA G' → Q (some (.int (askR S j))) (hp G' L)) : CT 114 [.ref 30, .int (nI j)] (hp G L) Q := by
  have hR' := hR
  obtain ⟨r1, r2, r3, r4⟩ := hR'
  have hall := cnt_le hR (fun _ => true)
  have hbl := bl_lt hR h0 (6 * S 0 1) (by omega)
  refine sm_meth hC [some (.ref 30), some (.int (nI j)), none, none, none, none] rfl rfl rfl ?_
  have lo : ∀ G1, eqx [39, 40, 41] G G1 → pA G1 → ¬ aAll S = 0 → (∀ k, k < 6 * S 0 1 → k % 6 < S 0 0 → ∀ q, q < 4 → G1 41 (24 * q + k) = nI (aPt S (k / 6) (k % 6) q)) → ∀ i, i ≤ 6 * S 0 1 → ∀ o5, sm_Wk 6 114 Q none 18 [some (.ref 30), some (.int (nI j)), some (.int (bI (bl S i).1)), some (.int (nI (bl S i).2)), some (.int (nI i)), o5] [] (hp G1 L) := by
    intro G1 hx hpa hne hk
    refine up _ (fun i hi ih o5 => ?_)
    have f2 : nI 6 * G1 30 3 = nI (6 * S 0 1) := by rw [mD_v (mD_x hx rfl hD), pk_mul]
    have f1 : G1 30 1 = nI (S 0 0) := mD_h (mD_x hx rfl hD)
    have e6 : sm_ir (nI i) (nI 6) = nI (i % 6) := zn_ir (by omega) (by decide) (by decide)
    have hb := bl_le (S := S) i
    have hws := ws_le hR i
    have ew : i % 6 < S 0 0 → mq 4 (aPt S (i / 6) (i % 6)) = ws S i := fun h => by unfold ws; rw [if_pos h]
    have stA : (bl S i).2 ≤ ws S i → bl S (i + 1) = bl S i := fun h => by rw [bl, if_neg (by omega)]
    have stB : ws S i < (bl S i).2 → bl S (i + 1) = (i, ws S i) := fun h => by rw [bl, if_pos h]
    have w8 : S 0 0 ≤ i % 6 → ws S i = 8192 := fun h => by unfold ws; rw [if_neg (by omega)]
    have hans : i = 6 * S 0 1 → ∀ v, v = (if j = 0 then (bl S i).1 / 6 else if j = 1 then (bl S i).1 % 6 else (bl S i).2) → Q (some (.int (nI v))) (hp G1 L) := by
      intro hi2 v e
      subst e
      subst hi2
      have := hQ G1 hx hpa
      unfold askR at this
      rw [if_neg hne] at this
      exact this
    have ebI : i = 6 * S 0 1 → bI (bl S i).1 = nI (bl S i).1 := fun e => by subst e; unfold bI; rw [if_pos (by omega)]
    have ebi : bI i = nI i ∨ ¬ i < 6 * S 0 1 := by
      by_cases h : i < 24
      · exact Or.inl (if_pos h)
      · exact Or.inr (by omega)
    refine sm_body [18] 80 sm_k114 (fun CT K hC hK => ?_)
    repeat' first
      | (with_reducible refine And.intro ?_ ?_)
      | ((with_reducible intro h9); first | exact absurd h9 (by decide) | (replace h9 := nle f2 (by omega) (by omega) h9) | (replace h9 := yle f2 (by omega) (by omega) h9) | ((rw [e6] at h9; replace h9 := yle f1 (by omega) (by omega) h9)) | ((rw [e6] at h9; replace h9 := nle f1 (by omega) (by omega) h9)) | ((rw [ew ‹_›] at h9; replace h9 := zle (by omega) (by omega) h9)) | ((rw [ew ‹_›] at h9; replace h9 := znle (by omega) (by omega) h9)) | (replace h9 := zle (b := 8192) (by omega) (by omega) h9) | (replace h9 := znle (b := 8192) (by omega) (by omega) h9) | skip)
      | (with_reducible exact zn_in (by omega) (by decide))
      | (with_reducible exact z01) | (with_reducible exact z11) | (with_reducible exact zb01 _)
      | (with_reducible exact zn_inb (by omega) (by decide))
      | (with_reducible exact zn_ina (by omega) (by decide))
      | (with_reducible exact zn_inc (by omega) (by decide))
      | ((conv => whnf); first | (with_reducible refine And.intro ?_ ?_) | ((with_reducible intro h9); first | exact absurd h9 (by decide) | (replace h9 := nle f2 (by omega) (by omega) h9) | (replace h9 := yle f2 (by omega) (by omega) h9) | ((rw [e6] at h9; replace h9 := yle f1 (by omega) (by omega) h9)) | ((rw [e6] at h9; replace h9 := nle f1 (by omega) (by omega) h9)) | ((rw [ew ‹_›] at h9; replace h9 := zle (by omega) (by omega) h9)) | ((rw [ew ‹_›] at h9; replace h9 := znle (by omega) (by omega) h9)) | (replace h9 := zle (b := 8192) (by omega) (by omega) h9) | (replace h9 := znle (b := 8192) (by omega) (by omega) h9) | skip) | (with_reducible refine hK _ _ _ _ (sm_un ?_)) | (with_reducible refine s_worstOf (hC.mono (by omega)) (by omega) (fun q _ => by have := cnt_le hR (fun w => Nat.beq (ps S w (i / 6) (i % 6 + 1)) q); unfold aPt; omega) (hk i ‹_› ‹_›) ?_))
    · have ei : i = 6 * S 0 1 := by omega
      exact hans ei _ (by rw [if_neg (zneq ‹¬ nI j = nI 0›), if_neg (zneq h9)])
    · have ei : i = 6 * S 0 1 := by omega
      refine zq ?_ (hans ei _ (by rw [if_neg (zneq ‹¬ nI j = nI 0›), if_pos (zeq (by omega) (by omega) h9)]))
      rw [ebI ei, zn_ir (by subst ei; omega) (by decide) (by decide)]
    · have ei : i = 6 * S 0 1 := by omega
      refine zq ?_ (hans ei _ (by rw [if_pos (zeq (by omega) (by omega) h9)]))
      rw [ebI ei, pk_div (by subst ei; omega) (by decide) (by decide)]
    all_goals try (exfalso; omega)
    · have e := ih ‹_› (some (.int (nI 8192)))
      rw [stA (by rw [w8 ‹_›]; exact hb)] at e
      simp only [nI_add]; exact ⟨⟨e⟩⟩
    · have e := ih ‹_› (some (.int (nI (mq 4 (aPt S (i / 6) (i % 6))))))
      rw [stA h9] at e
      simp only [nI_add]; exact ⟨⟨e⟩⟩
    · have e := ih ‹_› (some (.int (nI (mq 4 (aPt S (i / 6) (i % 6))))))
      rw [stB h9, ← ew ‹_›] at e
      have ebi : bI i = nI i := by rcases ebi with h | h; exact h; exact absurd ‹_› h
      simp only [ebi] at e
      simp only [nI_add]; exact ⟨⟨e⟩⟩
  refine sm_body [18] 40 sm_k114 (fun CT K hC hK => ?_)
  repeat' first
    | (with_reducible refine And.intro ?_ ?_)
    | ((with_reducible intro h9); first | exact absurd h9 (by decide) | (replace h9 := zneq h9) | (replace h9 := zeq (by unfold aAll; omega) (by omega) h9) | skip)
    | (with_reducible exact zn_in (by omega) (by decide))
    | (with_reducible exact z01) | (with_reducible exact z11) | (with_reducible exact zb01 _)
    | (with_reducible exact zn_inb (by omega) (by decide))
    | (with_reducible exact zn_ina (by omega) (by decide))
    | (with_reducible exact zn_inc (by omega) (by decide))
    | ((conv => whnf); first | (with_reducible refine And.intro ?_ ?_) | ((with_reducible intro h9); first | exact absurd h9 (by decide) | (replace h9 := zneq h9) | (replace h9 := zeq (by unfold aAll; omega) (by omega) h9) | skip) | (with_reducible refine hK _ _ _ _ (sm_un ?_)) | (with_reducible refine s_layParts (hC.mono (by omega)) hD hR hS hN hP (fun G1 hx hpa hk => ?_)))
  · exact ⟨⟨lo G1 hx hpa h9 hk 0 (Nat.zero_le _) _⟩⟩
  · have := hQ G1 hx hpa
    unfold askR at this
    rw [if_pos h9] at this
    exact this
end PARTS
end
section
/-! The best place to ask for; sorts, on both sides. -/
theorem sg_0 {g : Nat → Nat} : ∀ {n}, (∀ i, i < n → g i = 0) → sg n g = 0
  | 0, _ => rfl
  | n + 1, h => by
    show sg n g + g n = 0
    rw [sg_0 (n := n) (fun i hi => h i (by omega)), h n (by omega)]
theorem cf_wk {S : Nat → Nat → Nat} : ∀ {n h : Nat} {f : Nat → Nat}, cf S n h f = decide (0 < wk S n h f)
  | 0, h, f => rfl
  | n + 1, h, f => by
    have e : ∀ q, cfq S n h f q = decide (0 < cond (okq S h f q) (wk S n (h + 1) (tf S f q)) 0) := by
      intro q
      unfold cfq okq tf
      rw [cf_wk]
      cases may S h q <;> cases ag S h (fun v => tv S v (f v) q) <;> rfl
    show (cfq S n h f 0 || cfq S n h f 1 || cfq S n h f 2 || cfq S n h f 3) = _
    rw [wk, e, e, e, e]
    simp only [sg, Nat.zero_add]
    generalize cond (okq S h f 0) (wk S n (h + 1) (tf S f 0)) 0 = a
    generalize cond (okq S h f 1) (wk S n (h + 1) (tf S f 1)) 0 = b
    generalize cond (okq S h f 2) (wk S n (h + 1) (tf S f 2)) 0 = c
    generalize cond (okq S h f 3) (wk S n (h + 1) (tf S f 3)) 0 = d
    have : (0 < a + b + c + d) ↔ (((0 < a ∨ 0 < b) ∨ 0 < c) ∨ 0 < d) := by omega
    simp only [this, Bool.decide_or]
theorem cf_all {S : Nat → Nat → Nat} (hN : nR S) : cf S (S 0 0) 0 (S 3) = decide (0 < aAll S) := by
  rw [cf_wk, wk_all hN]
/-- with another sort -/
def sS (S : Nat → Nat → Nat) (v k : Nat) : Nat → Nat → Nat := su (su S 2 (su (S 2) v (k / 4))) 4 (su (S 4) v (k % 4))
def fS (S : Nat → Nat → Nat) (v k : Nat) : Bool := decide (0 < aAll (sS S v k))
theorem sS_0 {S v k} {a b : Nat} (ha : a ≠ 2) (hb : a ≠ 4) : sS S v k a b = S a b := by
  unfold sS
  rw [su_ne _ _ hb, su_ne _ _ ha]
theorem sS_2 {S v k i} : sS S v k 2 i = if i = v then k / 4 else S 2 i := by
  unfold sS
  rw [su_ne _ _ (by decide), su_eq, su_if]
theorem sS_4 {S v k i} : sS S v k 4 i = if i = v then k % 4 else S 4 i := by
  unfold sS
  rw [su_eq, su_if]
theorem sS_dR {S v k} (hk : k < 20) (hR : dR S) : dR (sS S v k) := by
  obtain ⟨r1, r2, r3, r4⟩ := hR
  unfold dR
  simp only [sS_0 (show (0 : Nat) ≠ 2 by decide) (show (0 : Nat) ≠ 4 by decide), sS_0 (show (1 : Nat) ≠ 2 by decide) (show (1 : Nat) ≠ 4 by decide), sS_0 (show (3 : Nat) ≠ 2 by decide) (show (3 : Nat) ≠ 4 by decide), sS_2, sS_4]
  refine ⟨r1, r2, r3, fun i hi => ?_⟩
  have := r4 i hi
  split
  · omega
  · exact this
theorem sS_nR {S v k} (hN : nR S) : nR (sS S v k) := by
  unfold nR
  simp only [sS_0 (show (0 : Nat) ≠ 2 by decide) (show (0 : Nat) ≠ 4 by decide), sS_0 (show (6 : Nat) ≠ 2 by decide) (show (6 : Nat) ≠ 4 by decide), sS_0 (show (7 : Nat) ≠ 2 by decide) (show (7 : Nat) ≠ 4 by decide), sS_0 (show (8 : Nat) ≠ 2 by decide) (show (8 : Nat) ≠ 4 by decide)]
  exact hN
theorem sS_cL {S v k G} (h : cL S G) : cL (sS S v k) G := by
  have e : ∀ v' h', lf (sS S v k) v' h' = lf S v' h' := by
    intro v' h'
    unfold lf ob
    simp only [sS_0 (show (0 : Nat) ≠ 2 by decide) (show (0 : Nat) ≠ 4 by decide), sS_0 (show (6 : Nat) ≠ 2 by decide) (show (6 : Nat) ≠ 4 by decide), sS_0 (show (7 : Nat) ≠ 2 by decide) (show (7 : Nat) ≠ 4 by decide), sS_0 (show (8 : Nat) ≠ 2 by decide) (show (8 : Nat) ≠ 4 by decide)]
  unfold cL
  simp only [e]
  exact h
theorem sS_mS {S v k G} (h : mS S G) : mS (sS S v k) G := by
  unfold mS
  simp only [sS_0 (show (0 : Nat) ≠ 2 by decide) (show (0 : Nat) ≠ 4 by decide), sS_0 (show (6 : Nat) ≠ 2 by decide) (show (6 : Nat) ≠ 4 by decide), sS_0 (show (7 : Nat) ≠ 2 by decide) (show (7 : Nat) ≠ 4 by decide), sS_0 (show (8 : Nat) ≠ 2 by decide) (show (8 : Nat) ≠ 4 by decide)]
  exact h
theorem sS_cD {S : Nat → Nat → Nat} {v k : Nat} {G G' : Nat → Nat → Int32} (hv : v < S 0 1) (h : cD S G) (e3 : G' 3 = G 3) (e4 : G' 4 = G 4) (e6 : G' 6 = G 6) (e5 : ∀ i, G' 5 i = if i = v then nI (k / 4) else G 5 i) (e7 : ∀ i, G' 7 i = if i = v then nI (k % 4) else G 7 i) : cD (sS S v k) G' := by
  obtain ⟨h1, h2, h3, h4⟩ := h
  unfold cD
  simp only [sS_0 (show (0 : Nat) ≠ 2 by decide) (show (0 : Nat) ≠ 4 by decide), sS_0 (show (1 : Nat) ≠ 2 by decide) (show (1 : Nat) ≠ 4 by decide), sS_0 (show (3 : Nat) ≠ 2 by decide) (show (3 : Nat) ≠ 4 by decide), sS_2, sS_4, e3, e4, e6, e5, e7]
  refine ⟨h1, h2, h3, fun i hi => ?_⟩
  split
  · exact ⟨rfl, (h4 i hi).2.1, rfl⟩
  · exact h4 i hi
theorem sS_mD {S : Nat → Nat → Nat} {v k : Nat} {G G' : Nat → Nat → Int32} (hv : v < S 0 1) (h : mD S G) (e3 : G' 30 = G 30) (e4 : G' 31 = G 31) (e6 : G' 33 = G 33) (e5 : ∀ i, G' 32 i = if i = v then nI (k / 4) else G 32 i) (e7 : ∀ i, G' 34 i = if i = v then nI (k % 4) else G 34 i) : mD (sS S v k) G' := by
  obtain ⟨h1, h2, h3, h4⟩ := h
  unfold mD
  simp only [sS_0 (show (0 : Nat) ≠ 2 by decide) (show (0 : Nat) ≠ 4 by decide), sS_0 (show (1 : Nat) ≠ 2 by decide) (show (1 : Nat) ≠ 4 by decide), sS_0 (show (3 : Nat) ≠ 2 by decide) (show (3 : Nat) ≠ 4 by decide), sS_2, sS_4, e3, e4, e6, e5, e7]
  refine ⟨h1, h2, h3, fun i hi => ?_⟩
  split
  · exact ⟨rfl, (h4 i hi).2.1, rfl⟩
  · exact h4 i hi
/-- the least of 20, 20 if there is none: the last d looked at -/
def lsd (f : Nat → Bool) : Nat → Nat
  | 0 => 20
  | d + 1 => if f (19 - d) then 19 - d else lsd f d
theorem lsd_t {f : Nat → Bool} {i : Nat} (hi : i < 20) (h : ∀ k, k < i → f k = false) (hf : f i = true) : ∀ d, 20 - d ≤ i → d ≤ 20 → lsd f d = i
  | 0, h1, _ => by omega
  | d + 1, h1, h2 => by
    rw [lsd]
    by_cases e : 19 - d = i
    · rw [e, if_pos hf]
    · rw [h (19 - d) (by omega)]
      exact lsd_t hi h hf d (by omega) (by omega)
theorem lsd_f {f : Nat → Bool} (h : ∀ k, k < 20 → f k = false) : ∀ d, lsd f d = 20
  | 0 => rfl
  | d + 1 => by
    rw [lsd, h (19 - d) (by omega)]
    exact lsd_f h d
theorem bq_bit {f : Nat → Bool} : ∀ {n i : Nat}, bq n (fun k => bn (f k)) / 2 ^ i % 2 = cond (decide (i < n)) (bn (f i)) 0
  | 0, i => by
    show 0 / 2 ^ i % 2 = 0
    rw [Nat.zero_div]
  | n + 1, i => by
    have e : (if 0 < bn (f n) then 2 ^ n else 0) = bn (f n) * 2 ^ n := by cases f n <;> simp [bn]
    show (bq n (fun k => bn (f k)) + (if 0 < bn (f n) then 2 ^ n else 0)) / 2 ^ i % 2 = _
    rw [e]
    have hl := bq_lt (c := fun k => bn (f k)) n
    by_cases hin : i < n
    · obtain ⟨d, rfl⟩ : ∃ d, n = i + 1 + d := ⟨n - i - 1, by omega⟩
      have e2 : bn (f (i + 1 + d)) * 2 ^ (i + 1 + d) = (2 * (bn (f (i + 1 + d)) * 2 ^ d)) * 2 ^ i := by
        rw [show i + 1 + d = d + 1 + i by omega, Nat.pow_add, Nat.pow_succ]
        simp only [Nat.mul_assoc, Nat.mul_comm, Nat.mul_left_comm]
      rw [e2, Nat.add_mul_div_right _ _ (Nat.pow_pos (by decide)), Nat.add_mul_mod_self_left, bq_bit (n := i + 1 + d) (i := i)]
      simp only [decide_eq_true (show i < i + 1 + d by omega), decide_eq_true (show i < i + 1 + d + 1 by omega)]
    · by_cases hie : i = n
      · subst hie
        rw [Nat.add_mul_div_right _ _ (Nat.pow_pos (by decide)), Nat.div_eq_of_lt hl, Nat.zero_add, decide_eq_true (show i < i + 1 by omega)]
        have := bn_lt (f i)
        show bn (f i) % 2 = bn (f i)
        omega
      · have hb := bn_lt (f n)
        have : bq n (fun k => bn (f k)) + bn (f n) * 2 ^ n < 2 ^ i := by
          have h1 : 2 ^ (n + 1) ≤ 2 ^ i := Nat.pow_le_pow_right (by decide) (by omega)
          rw [Nat.pow_succ] at h1
          have h2 : bn (f n) * 2 ^ n ≤ 1 * 2 ^ n := Nat.mul_le_mul_right _ (by omega)
          omega
        rw [Nat.div_eq_of_lt this, decide_eq_false (show ¬ i < n + 1 by omega)]
        rfl
theorem su2_back {a b : Nat} {G G1 : Nat → Nat → Int32} {x y : Nat → Int32} (hx : eqx [a, b] G G1) (h1 : ∀ j, x j = G a j) (h2 : ∀ j, y j = G b j) : su (su G1 a x) b y = G := by
  funext p
  by_cases hb : p = b
  · subst hb
    rw [su_eq]
    exact funext h2
  · rw [su_ne _ _ hb]
    by_cases ha : p = a
    · subst ha
      rw [su_eq]
      exact funext h1
    · rw [su_ne _ _ ha]
      refine hx p ?_
      simp only [sm_mem, beq_f (Ne.symm ha), beq_f (Ne.symm hb), cond]
section SORTS
variable {CT : sm_CT} {G : Nat → Nat → Int32} {L : Nat → Nat → Int64} {Q : sm_Q} {S : Nat → Nat → Nat} {h : sm_H}
def lI (m : Nat) : Int32 := if m < 20 then nI m else -1
set_option maxRecDepth 100000 in
set_option maxHeartbeats 4000000 in
theorem s_leastOf (hC : sm_C 1 CT) {f : Nat → Bool} (hQ : Q (some (.int (lI (lsd f 20)))) h) : CT 69 [.int (nI (bq 20 (fun k => bn (f k))))] h Q := by
  have hl := bq_lt (c := fun k => bn (f k)) 20
  refine sm_meth hC [some (.int (nI (bq 20 (fun k => bn (f k))))), none] rfl rfl rfl ?_
  have lo : ∀ i, i ≤ 32 → (∀ k, k < i → k < 20 → f k = false) → sm_Wk 0 69 Q none 2 [some (.int (nI (bq 20 (fun k => bn (f k))))), some (.int (nI i))] [] h := by
    refine up _ (fun i hi ih hz => ?_)
    have eb : i < 32 → sm_shr (nI (bq 20 (fun k => bn (f k)))) (nI i) &&& nI 1 = nI (cond (decide (i < 20)) (bn (f i)) 0) := fun hi => by rw [zn_bit (by omega) (by omega), bq_bit]
    refine sm_body [2] 80 sm_k69 (fun CT K hC hK => ?_)
    repeat' first
      | (with_reducible refine And.intro ?_ ?_)
      | ((with_reducible intro h9); first | exact absurd h9 (by decide) | (replace h9 := zle (by omega) (by omega) h9) | (replace h9 := znle (by omega) (by omega) h9) | (rw [eb ‹_›] at h9) | skip)
      | (with_reducible exact zn_in (by omega) (by decide))
      | (with_reducible exact z01) | (with_reducible exact z11) | (with_reducible exact zb01 _)
      | (with_reducible exact zn_inb (by omega) (by decide))
      | (with_reducible exact zn_ina (by omega) (by decide))
      | (with_reducible exact zn_inc (by omega) (by decide))
      | ((conv => whnf); first | (with_reducible refine And.intro ?_ ?_) | ((with_reducible intro h9); first | exact absurd h9 (by decide) | (replace h9 := zle (by omega) (by omega) h9) | (replace h9 := znle (by omega) (by omega) h9) | (rw [eb ‹_›] at h9) | skip) | (with_reducible refine hK _ _ _ _ (sm_un ?_)))
    · refine zq ?_ hQ
      rw [lsd_f (fun k hk => hz k (by omega) hk)]
      rfl
    · have e : i < 20 → f i = false := by
        intro h20
        rw [decide_eq_true h20] at h9
        cases hf : f i with
        | false => rfl
        | true => rw [hf] at h9; exact absurd rfl h9
      simp only [nI_add]; exact ⟨⟨ih ‹_› (fun k hk h20 => if hki : k = i then (by subst hki; exact e h20) else hz k (by omega) h20)⟩⟩
    · have h20 : i < 20 := by
        by_cases h : i < 20
        · exact h
        · rw [decide_eq_false h] at h9
          exact absurd (show nI 0 = nI 1 from h9) (by decide)
      rw [decide_eq_true h20] at h9
      have hf : f i = true := by
        cases hf : f i with
        | true => rfl
        | false => rw [hf] at h9; exact absurd h9 (by decide)
      refine zq ?_ hQ
      rw [lsd_t h20 (fun k hk => hz k hk (by omega)) hf 20 (by omega) (by omega)]
      exact (if_pos h20).symm
  refine sm_body [2] 80 sm_k69 (fun CT K hC hK => ?_)
  repeat' first
    | (with_reducible refine And.intro ?_ ?_)
    | ((with_reducible intro h9); first | exact absurd h9 (by decide) | skip)
    | (with_reducible exact zn_in (by omega) (by decide))
    | (with_reducible exact z01) | (with_reducible exact z11) | (with_reducible exact zb01 _)
    | (with_reducible exact zn_inb (by omega) (by decide))
    | (with_reducible exact zn_ina (by omega) (by decide))
    | (with_reducible exact zn_inc (by omega) (by decide))
    | ((conv => whnf); first | (with_reducible refine And.intro ?_ ?_) | ((with_reducible intro h9); first | exact absurd h9 (by decide) | skip) | (with_reducible refine hK _ _ _ _ (sm_un ?_)))
  exact ⟨⟨lo 0 (Nat.zero_le _) (fun k hk => absurd hk (Nat.not_lt_zero _))⟩⟩
set_option maxRecDepth 100000 in
set_option maxHeartbeats 4000000 in
theorem s_possibleSorts (hC : sm_C 14 CT) (hD : cD S G) (hR : dR S) (hL : cL S G) (hN : nR S) {v : Nat} (hv : v < S 0 1) (hQ : Q (some (.int (nI (bq 20 (fun k => bn (fS S v k)))))) (hp G L)) : CT 68 [.ref 0, .int (nI v)] (hp G L) Q := by
  have hR' := hR
  obtain ⟨r1, r2, r3, r4⟩ := hR'
  have hD' := hD
  obtain ⟨e1, e2, e3, e4⟩ := hD'
  have cv : (nI v).toNatClampNeg = v := nI_clamp (by omega)
  refine sm_meth hC [some (.ref 0), some (.int (nI v)), none, none, none, none] rfl rfl rfl ?_
  have lo : ∀ i, i ≤ 20 → ∀ G1, eqx [5, 7] G G1 → (∀ j, j ≠ v → G1 5 j = G 5 j) → (∀ j, j ≠ v → G1 7 j = G 7 j) → sm_Wk 13 68 Q none 26 [some (.ref 0), some (.int (nI v)), some (.int (nI (S 2 v))), some (.int (nI (S 4 v))), some (.int (nI (bq i (fun k => bn (fS S v k))))), some (.int (nI i))] [] (hp G1 L) := by
    refine up _ (fun i hi ih G1 hx h5 h7 => ?_)
    have eo : bq i (fun k => bn (fS S v k)) ||| 1 * 2 ^ i = bq i (fun k => bn (fS S v k)) + 2 ^ i := by rw [Nat.one_mul]; exact bq_or i
    have ed : nI i / nI 4 = nI (i / 4) := pk_div (by omega) (by decide) (by decide)
    have em : sm_ir (nI i) (nI 4) = nI (i % 4) := zn_ir (by omega) (by decide) (by decide)
    refine sm_body [26] 80 sm_k68 (fun CT K hC hK => ?_)
    repeat' first
      | (with_reducible refine And.intro ?_ ?_)
      | ((with_reducible intro h9); first | exact absurd h9 (by decide) | (replace h9 := zle (by omega) (by omega) h9) | (replace h9 := znle (by omega) (by omega) h9) | (replace h9 := sb_f h9) | (replace h9 := sb_t h9) | skip)
      | (with_reducible exact zn_in (by omega) (by decide))
      | (with_reducible exact z01) | (with_reducible exact z11) | (with_reducible exact zb01 _)
      | (with_reducible exact zn_inb (by omega) (by decide))
      | (with_reducible exact zn_ina (by omega) (by decide))
      | (with_reducible exact zn_inc (by omega) (by decide))
      | ((conv => whnf); first | (with_reducible refine And.intro ?_ ?_) | ((with_reducible intro h9); first | exact absurd h9 (by decide) | (replace h9 := zle (by omega) (by omega) h9) | (replace h9 := znle (by omega) (by omega) h9) | (replace h9 := sb_f h9) | (replace h9 := sb_t h9) | skip) | (with_reducible refine hK _ _ _ _ (sm_un ?_)) | (simp only [hp_0, hp_1, hp_2, hp_3, hp_4, hp_5, hp_6, hp_7, hp_8, hp_9, hp_10, hp_11, hp_12, hp_13, hp_14, hp_15, hp_16, hp_17, hp_18, hp_19, hp_20, hp_22, hp_23, hp_24, hp_25, hp_26, hp_27, hp_28, hp_29, hp_30, hp_31, hp_32, hp_33, hp_34, hp_35, hp_36, hp_37, hp_38, hp_39, hp_40, hp_41, hp_42, hp_43, hp_44, hp_45, hp_46, hp_47, hp_48, hp_49, hf0_5, hf0_6, hf0_7, hf1_1, hf3_0, hf3_2, hf3_6, hf10_0, hf10_2, hf10_6, hf17_3, hf17_4, hf20_3, hf20_4, hf30_0, hf30_1, hf30_3, hf30_7, hf30_11, hf30_12, hf30_20, hf30_22, hf30_23, hf30_24, hf30_25, hf30_21, hf30_31, upd_su, updL_su, cv, ed, em]; refine s_hasFitting (S := sS S v i) (hC.mono (by omega)) (sS_cD hv hD ?_ ?_ ?_ ?_ ?_) (sS_dR ‹_› hR) (sS_cL (cL_x (eqx_su 7 _ rfl (eqx_su 5 _ rfl hx)) rfl hL)) ?_))
    all_goals try simp only [hp_0, hp_1, hp_2, hp_3, hp_4, hp_5, hp_6, hp_7, hp_8, hp_9, hp_10, hp_11, hp_12, hp_13, hp_14, hp_15, hp_16, hp_17, hp_18, hp_19, hp_20, hp_22, hp_23, hp_24, hp_25, hp_26, hp_27, hp_28, hp_29, hp_30, hp_31, hp_32, hp_33, hp_34, hp_35, hp_36, hp_37, hp_38, hp_39, hp_40, hp_41, hp_42, hp_43, hp_44, hp_45, hp_46, hp_47, hp_48, hp_49, hf0_5, hf0_6, hf0_7, hf1_1, hf3_0, hf3_2, hf3_6, hf10_0, hf10_2, hf10_6, hf17_3, hf17_4, hf20_3, hf20_4, hf30_0, hf30_1, hf30_3, hf30_7, hf30_11, hf30_12, hf30_20, hf30_22, hf30_23, hf30_24, hf30_25, hf30_21, hf30_31, upd_su, updL_su, cv]
    · obtain rfl : i = 20 := by omega
      have eG := su2_back (x := su (G1 5) v (nI (S 2 v))) (y := su (G1 7) v (nI (S 4 v))) hx (fun j => by
        rw [su_if]
        by_cases e : j = v
        · subst e; rw [if_pos rfl, (e4 j hv).1]
        · rw [if_neg e, h5 j e]) (fun j => by
        rw [su_if]
        by_cases e : j = v
        · subst e; rw [if_pos rfl, (e4 j hv).2.2]
        · rw [if_neg e, h7 j e])
      conv => whnf
      simp only [hp_0, hp_1, hp_2, hp_3, hp_4, hp_5, hp_6, hp_7, hp_8, hp_9, hp_10, hp_11, hp_12, hp_13, hp_14, hp_15, hp_16, hp_17, hp_18, hp_19, hp_20, hp_22, hp_23, hp_24, hp_25, hp_26, hp_27, hp_28, hp_29, hp_30, hp_31, hp_32, hp_33, hp_34, hp_35, hp_36, hp_37, hp_38, hp_39, hp_40, hp_41, hp_42, hp_43, hp_44, hp_45, hp_46, hp_47, hp_48, hp_49, hf0_5, hf0_6, hf0_7, hf1_1, hf3_0, hf3_2, hf3_6, hf10_0, hf10_2, hf10_6, hf17_3, hf17_4, hf20_3, hf20_4, hf30_0, hf30_1, hf30_3, hf30_7, hf30_11, hf30_12, hf30_20, hf30_22, hf30_23, hf30_24, hf30_25, hf30_21, hf30_31, upd_su, updL_su, cv, eG]
      exact hQ
    · exact hx 3 rfl
    · exact hx 4 rfl
    · exact hx 6 rfl
    · rw [su_ne _ _ (by decide), su_eq, su_if]
      by_cases e : h9 = v
      · rw [if_pos e, if_pos e]
      · rw [if_neg e, if_neg e, h5 _ e]
    · rw [su_eq, su_if]
      by_cases e : h9 = v
      · rw [if_pos e, if_pos e]
      · rw [if_neg e, if_neg e, h7 _ e]
    all_goals
      have hX := eqx_su 7 (su (G1 7) v (nI (i % 4))) (by rfl) (eqx_su 5 (su (G1 5) v (nI (i / 4))) (by rfl) hx)
      have e := ih ‹_› _ hX (fun j hj => by rw [su_ne _ _ (by decide), su_eq, su_ne _ _ hj]; exact h5 j hj) (fun j hj => by rw [su_eq, su_ne _ _ hj]; exact h7 j hj)
      rw [cf_all (sS_nR hN)] at h9
    · rw [bq, show bn (fS S v i) = 0 from bn_f h9] at e
      simp only [nI_add]; exact ⟨⟨e⟩⟩
    · rw [bq, show bn (fS S v i) = 1 from bn_t h9] at e
      simp only [nI_add, zn_shl (show i < 32 by omega), zn_or, eo]
      exact ⟨⟨e⟩⟩
  refine sm_body [26] 80 sm_k68 (fun CT K hC hK => ?_)
  repeat' first
    | (with_reducible refine And.intro ?_ ?_)
    | ((with_reducible intro h9); first | exact absurd h9 (by decide) | skip)
    | (with_reducible exact zn_in (by omega) (by decide))
    | (with_reducible exact z01) | (with_reducible exact z11) | (with_reducible exact zb01 _)
    | (with_reducible exact zn_inb (by omega) (by decide))
    | (with_reducible exact zn_ina (by omega) (by decide))
    | (with_reducible exact zn_inc (by omega) (by decide))
    | ((conv => whnf); first | (with_reducible refine And.intro ?_ ?_) | ((with_reducible intro h9); first | exact absurd h9 (by decide) | skip) | (with_reducible refine hK _ _ _ _ (sm_un ?_)))
  simp only [cv, (e4 v hv).1, (e4 v hv).2.2]
  exact ⟨⟨lo 0 (Nat.zero_le _) G eqx_rfl (fun _ _ => rfl) (fun _ _ => rfl)⟩⟩
theorem lsd_at {f : Nat → Bool} : ∀ {d}, d ≤ 20 → lsd f d = 20 ∨ (20 - d ≤ lsd f d ∧ lsd f d < 20)
  | 0, _ => Or.inl rfl
  | d + 1, h => by
    rw [lsd]
    by_cases e : f (19 - d) = true
    · rw [if_pos e]; omega
    · rw [if_neg e]
      have := lsd_at (f := f) (d := d) (by omega)
      omega
/-- what sorts answers -/
def sortsR (S : Nat → Nat → Nat) (v j : Nat) : Int32 := if j = 0 then nI (ct (fS S v) 20) else lI (lsd (fS S v) 20)
set_option maxRecDepth 100000 in
set_option maxHeartbeats 4000000 in
theorem s_sortsNow (hC : sm_C 8 CT) (hD : mD S G) (hR : dR S) (hS : mS S G) (hN : nR S) {v j : Nat} (hv : v < S 0 1) (hj : j < 2)
    (hQ : ∀ G', eqx [39, 40] G G' → (pA G → pA G') → Q (some (.int (sortsR S v j))) (hp G' L)) : CT 123 [.ref 30, .int (nI v), .int (nI j)] (hp G L) Q := by
  have hR' := hR
  obtain ⟨r1, r2, r3, r4⟩ := hR'
  have hD' := hD
  obtain ⟨e1, e2, e3, e4⟩ := hD'
  have cv : (nI v).toNatClampNeg = v := nI_clamp (by omega)
  refine sm_meth hC [some (.ref 30), some (.int (nI v)), some (.int (nI j)), none, none, none, none, none, none] rfl rfl rfl ?_
  have lo : ∀ d, d ≤ 20 → ∀ G1 o8, eqx [32, 34, 39, 40] G G1 → (∀ j, j ≠ v → G1 32 j = G 32 j) → (∀ j, j ≠ v → G1 34 j = G 34 j) → (pA G → pA G1) → ∀ x, x + ct (fS S v) (20 - d) = ct (fS S v) 20 → sm_Wk 7 123 Q none 25 [some (.ref 30), some (.int (nI v)), some (.int (nI j)), some (.int (nI (S 2 v))), some (.int (nI (S 4 v))), some (.int (nI x)), some (.int (lI (lsd (fS S v) d))), some (.int (nI 19 - nI d)), o8] [] (hp G1 L) := by
    refine up _ (fun d hd ih G1 o8 hx h5 h7 hpa x hx2 => ?_)
    have eI : d < 20 → nI 19 - nI d = nI (19 - d) := fun h => pk_sub (by omega)
    have en : (nI 19 - nI d < nI 0) ↔ d = 20 := by
      by_cases h : d = 20
      · subst h; exact ⟨fun _ => rfl, fun _ => by decide⟩
      · rw [eI (by omega), nI_ltI (by omega) (by omega)]; omega
    have ed : d < 20 → (nI 19 - nI d) / nI 4 = nI ((19 - d) / 4) := fun h => by rw [eI h]; exact pk_div (by omega) (by decide) (by decide)
    have em : d < 20 → sm_ir (nI 19 - nI d) (nI 4) = nI ((19 - d) % 4) := fun h => by rw [eI h]; exact zn_ir (by omega) (by decide) (by decide)
    have back_ : d = 20 → eqx [39, 40] G (su (su G1 32 (su (G1 32) v (nI (S 2 v)))) 34 (su (G1 34) v (nI (S 4 v)))) ∧ (pA G → pA (su (su G1 32 (su (G1 32) v (nI (S 2 v)))) 34 (su (G1 34) v (nI (S 4 v))))) := by
      intro _
      refine ⟨fun p hp => ?_, fun z k hk => by rw [su_ne _ _ (by decide), su_ne _ _ (by decide)]; exact hpa z k hk⟩
      by_cases hb : p = 34
      · subst hb
        rw [su_eq]
        funext j
        rw [su_if]
        by_cases e : j = v
        · subst e; rw [if_pos rfl, (e4 j hv).2.2]
        · rw [if_neg e, h7 j e]
      · rw [su_ne _ _ hb]
        by_cases ha : p = 32
        · subst ha
          rw [su_eq]
          funext j
          rw [su_if]
          by_cases e : j = v
          · subst e; rw [if_pos rfl, (e4 j hv).1]
          · rw [if_neg e, h5 j e]
        · rw [su_ne _ _ ha]
          refine hx p ?_
          simp only [sm_mem, beq_f (Ne.symm ha), beq_f (Ne.symm hb), cond] at hp ⊢
          exact hp
    have en1 : ∀ d, d ≤ 20 → nI 19 - nI d + -1 = nI 19 - nI (d + 1) := by decide
    refine sm_body [25] 80 sm_k123 (fun CT K hC hK => ?_)
    repeat' first
      | (with_reducible refine And.intro ?_ ?_)
      | ((with_reducible intro h9); first | exact absurd h9 (by decide) | (rw [en] at h9) | (replace h9 := sb_f h9) | (replace h9 := sb_t h9) | skip)
      | (with_reducible exact zn_in (by omega) (by decide))
      | (with_reducible exact z01) | (with_reducible exact z11) | (with_reducible exact zb01 _)
      | (with_reducible exact zn_inb (by omega) (by decide))
      | (with_reducible exact zn_ina (by omega) (by decide))
      | (with_reducible exact zn_inc (by omega) (by decide))
      | ((conv => whnf); first | (with_reducible refine And.intro ?_ ?_) | ((with_reducible intro h9); first | exact absurd h9 (by decide) | (rw [en] at h9) | (replace h9 := sb_f h9) | (replace h9 := sb_t h9) | skip) | (with_reducible refine hK _ _ _ _ (sm_un ?_)) | (have hd20 : d < 20 := (by omega); simp only [hp_0, hp_1, hp_2, hp_3, hp_4, hp_5, hp_6, hp_7, hp_8, hp_9, hp_10, hp_11, hp_12, hp_13, hp_14, hp_15, hp_16, hp_17, hp_18, hp_19, hp_20, hp_22, hp_23, hp_24, hp_25, hp_26, hp_27, hp_28, hp_29, hp_30, hp_31, hp_32, hp_33, hp_34, hp_35, hp_36, hp_37, hp_38, hp_39, hp_40, hp_41, hp_42, hp_43, hp_44, hp_45, hp_46, hp_47, hp_48, hp_49, hf0_5, hf0_6, hf0_7, hf1_1, hf3_0, hf3_2, hf3_6, hf10_0, hf10_2, hf10_6, hf17_3, hf17_4, hf20_3, hf20_4, hf30_0, hf30_1, hf30_3, hf30_7, hf30_11, hf30_12, hf30_20, hf30_22, hf30_23, hf30_24, hf30_25, hf30_21, hf30_31, upd_su, updL_su, cv, ed hd20, em hd20]; refine s_anyFits (S := sS S v (19 - d)) (hC.mono (by omega)) (sS_mD hv hD ?_ ?_ ?_ ?_ ?_) (sS_dR (by omega) hR) (sS_mS (mS_x (eqx_su 34 _ rfl (eqx_su 32 _ rfl hx)) rfl hS)) (sS_nR hN) (fun G2 hx3 hpa2 => ?_)))
    all_goals try (exact absurd (‹decide (0 < aAll (sS S v (19 - d))) = false›.symm.trans ‹decide (0 < aAll (sS S v (19 - d))) = true›) (by decide))
    · have e := back_ ‹d = 20›
      conv => whnf
      simp only [hp_0, hp_1, hp_2, hp_3, hp_4, hp_5, hp_6, hp_7, hp_8, hp_9, hp_10, hp_11, hp_12, hp_13, hp_14, hp_15, hp_16, hp_17, hp_18, hp_19, hp_20, hp_22, hp_23, hp_24, hp_25, hp_26, hp_27, hp_28, hp_29, hp_30, hp_31, hp_32, hp_33, hp_34, hp_35, hp_36, hp_37, hp_38, hp_39, hp_40, hp_41, hp_42, hp_43, hp_44, hp_45, hp_46, hp_47, hp_48, hp_49, hf0_5, hf0_6, hf0_7, hf1_1, hf3_0, hf3_2, hf3_6, hf10_0, hf10_2, hf10_6, hf17_3, hf17_4, hf20_3, hf20_4, hf30_0, hf30_1, hf30_3, hf30_7, hf30_11, hf30_12, hf30_20, hf30_22, hf30_23, hf30_24, hf30_25, hf30_21, hf30_31, upd_su, updL_su, cv]
      have e2 := hQ _ e.1 e.2
      unfold sortsR at e2
      rw [if_neg (zneq h9)] at e2
      rw [‹d = 20›]
      exact e2
    · have e := back_ ‹d = 20›
      conv => whnf
      simp only [hp_0, hp_1, hp_2, hp_3, hp_4, hp_5, hp_6, hp_7, hp_8, hp_9, hp_10, hp_11, hp_12, hp_13, hp_14, hp_15, hp_16, hp_17, hp_18, hp_19, hp_20, hp_22, hp_23, hp_24, hp_25, hp_26, hp_27, hp_28, hp_29, hp_30, hp_31, hp_32, hp_33, hp_34, hp_35, hp_36, hp_37, hp_38, hp_39, hp_40, hp_41, hp_42, hp_43, hp_44, hp_45, hp_46, hp_47, hp_48, hp_49, hf0_5, hf0_6, hf0_7, hf1_1, hf3_0, hf3_2, hf3_6, hf10_0, hf10_2, hf10_6, hf17_3, hf17_4, hf20_3, hf20_4, hf30_0, hf30_1, hf30_3, hf30_7, hf30_11, hf30_12, hf30_20, hf30_22, hf30_23, hf30_24, hf30_25, hf30_21, hf30_31, upd_su, updL_su, cv]
      have e2 := hQ _ e.1 e.2
      unfold sortsR at e2
      rw [if_pos (zeq (by omega) (by omega) h9)] at e2
      have e3 : x = ct (fS S v) 20 := by rw [‹d = 20›] at hx2; exact hx2
      rw [e3]
      exact e2
    · exact hx 30 rfl
    · exact hx 31 rfl
    · exact hx 33 rfl
    · rw [su_ne _ _ (by decide), su_eq, su_if]
      by_cases e : h9 = v
      · rw [if_pos e, if_pos e]
      · rw [if_neg e, if_neg e, h5 _ e]
    · rw [su_eq, su_if]
      by_cases e : h9 = v
      · rw [if_pos e, if_pos e]
      · rw [if_neg e, if_neg e, h7 _ e]
    all_goals
      have hX := eqx_trans (eqx_su 34 (su (G1 34) v (nI ((19 - d) % 4))) (by rfl) (eqx_su 32 (su (G1 32) v (nI ((19 - d) / 4))) (by rfl) hx)) (eqx_sub (by rfl) hx3)
      have hd20 : d < 20 := by omega
      have ect : ct (fS S v) (20 - d) = ct (fS S v) (20 - (d + 1)) + bn (fS S v (19 - d)) := by rw [show 20 - d = (20 - (d + 1)) + 1 by omega, ct, show 20 - (d + 1) = 19 - d by omega]
      have e := ih hd20 G2 (some (.int (sm_b (decide (0 < aAll (sS S v (19 - d))))))) hX (fun j hj => by rw [hx3 32 rfl, su_ne _ _ (by decide), su_eq, su_ne _ _ hj]; exact h5 j hj) (fun j hj => by rw [hx3 34 rfl, su_eq, su_ne _ _ hj]; exact h7 j hj) (fun z => hpa2 (fun k hk => by rw [su_ne _ _ (by decide), su_ne _ _ (by decide)]; exact hpa z k hk))
    · have ef : fS S v (19 - d) = false := h9
      have e := e (x + 0) (by rw [ect, ef] at hx2; exact hx2)
      rw [lsd, ef] at e
      simp only [nI_add, en1 d (by omega)]
      exact ⟨⟨e⟩⟩
    · have ef : fS S v (19 - d) = true := h9
      have e := e (x + 1) (by rw [ect, ef, bn_t rfl] at hx2; omega)
      rw [lsd, ef, if_pos rfl, show lI (19 - d) = nI (19 - d) from if_pos (by omega), ← eI hd20] at e
      simp only [nI_add, en1 d (by omega)]
      exact ⟨⟨e⟩⟩
  refine sm_body [25] 80 sm_k123 (fun CT K hC hK => ?_)
  repeat' first
    | (with_reducible refine And.intro ?_ ?_)
    | ((with_reducible intro h9); first | exact absurd h9 (by decide) | skip)
    | (with_reducible exact zn_in (by omega) (by decide))
    | (with_reducible exact z01) | (with_reducible exact z11) | (with_reducible exact zb01 _)
    | (with_reducible exact zn_inb (by omega) (by decide))
    | (with_reducible exact zn_ina (by omega) (by decide))
    | (with_reducible exact zn_inc (by omega) (by decide))
    | ((conv => whnf); first | (with_reducible refine And.intro ?_ ?_) | ((with_reducible intro h9); first | exact absurd h9 (by decide) | skip) | (with_reducible refine hK _ _ _ _ (sm_un ?_)))
  simp only [cv, (e4 v hv).1, (e4 v hv).2.2]
  exact ⟨⟨lo 0 (Nat.zero_le _) G _ eqx_rfl (fun _ _ => rfl) (fun _ _ => rfl) (fun z => z) 0 (Nat.zero_add _)⟩⟩
end SORTS
end
section
/-! Bits counted; the fewest of a kind of sets. -/
theorem and16 (p q r s : Nat) (hp : p < 16) (hr : r < 16) : (p + 16 * q) &&& (r + 16 * s) = (p &&& r) + 16 * (q &&& s) := by
  have h1 : ((p + 16 * q) &&& (r + 16 * s)) / 2 ^ 4 = q &&& s := by
    rw [Nat.and_div_two_pow]
    congr 1 <;> omega
  have h2 : ((p + 16 * q) &&& (r + 16 * s)) % 2 ^ 4 = p &&& r := by
    rw [Nat.and_mod_two_pow]
    congr 1 <;> omega
  omega
def n4 (y : Nat) : Nat := y % 2 + y / 2 % 2 + y / 4 % 2 + y / 8 % 2
/-- how many bits, of 20 -/
def pc (x : Nat) : Nat := n4 (x % 16) + n4 (x / 16 % 16) + n4 (x / 16 / 16 % 16) + n4 (x / 16 / 16 / 16 % 16) + n4 (x / 16 / 16 / 16 / 16)
theorem bn_beq1 (x : Nat) : bn (Nat.beq (x % 2) 1) = x % 2 := by
  have : x % 2 = 0 ∨ x % 2 = 1 := by omega
  rcases this with h | h <;> rw [h] <;> rfl
theorem jb_1 : ∀ n, n < 16 → ∀ b, b < 2 → (n / 2 + 8 * b) &&& 5 = (n / 2) &&& 5 := by decide
theorem jb_2 : ∀ n, n < 16 → ∀ b, b < 4 → (n / 4 + 4 * b) &&& 3 = (n / 4) &&& 3 := by decide
theorem jb_3 : ∀ n, n < 16 → (n / 2) &&& 5 ≤ n := by decide
theorem jb_4 : ∀ n, n < 16 → ((n - ((n / 2) &&& 5)) &&& 3) + (((n - ((n / 2) &&& 5)) / 4) &&& 3) = n4 n := by decide
theorem jb_5 : ∀ n, n < 16 → (n / 2) &&& 21845 = (n / 2) &&& 5 := by decide
theorem jb_6 : ∀ n, n < 16 → n &&& 13107 = n &&& 3 ∧ (n / 4) &&& 13107 = (n / 4) &&& 3 := by decide
theorem jb_a (n0 n1 n2 n3 m4 : Nat) (h0 : n0 < 16) (h1 : n1 < 16) (h2 : n2 < 16) (h3 : n3 < 16) (h4 : m4 < 16) : (n0 + 16 * (n1 + 16 * (n2 + 16 * (n3 + 16 * m4)))) / 2 &&& 1431655765 = ((n0 / 2) &&& 5) + 16 * (((n1 / 2) &&& 5) + 16 * (((n2 / 2) &&& 5) + 16 * (((n3 / 2) &&& 5) + 16 * ((m4 / 2) &&& 5)))) := by
  have e : (n0 + 16 * (n1 + 16 * (n2 + 16 * (n3 + 16 * m4)))) / 2 = (n0 / 2 + 8 * (n1 % 2)) + 16 * ((n1 / 2 + 8 * (n2 % 2)) + 16 * ((n2 / 2 + 8 * (n3 % 2)) + 16 * ((n3 / 2 + 8 * (m4 % 2)) + 16 * (m4 / 2)))) := by omega
  have em : (1431655765 : Nat) = 5 + 16 * (5 + 16 * (5 + 16 * (5 + 16 * 21845))) := by decide
  rw [e, em, and16 _ _ _ _ (by omega) (by omega), and16 _ _ _ _ (by omega) (by omega), and16 _ _ _ _ (by omega) (by omega), and16 _ _ _ _ (by omega) (by omega)]
  rw [jb_1 n0 h0 _ (by omega), jb_1 n1 h1 _ (by omega), jb_1 n2 h2 _ (by omega), jb_1 n3 h3 _ (by omega), jb_5 m4 h4]
theorem jb_b (a0 a1 a2 a3 a4 : Nat) (h0 : a0 < 16) (h1 : a1 < 16) (h2 : a2 < 16) (h3 : a3 < 16) (h4 : a4 < 16) : (a0 + 16 * (a1 + 16 * (a2 + 16 * (a3 + 16 * a4)))) &&& 858993459 = (a0 &&& 3) + 16 * ((a1 &&& 3) + 16 * ((a2 &&& 3) + 16 * ((a3 &&& 3) + 16 * (a4 &&& 3)))) := by
  have em : (858993459 : Nat) = 3 + 16 * (3 + 16 * (3 + 16 * (3 + 16 * 13107))) := by decide
  rw [em, and16 _ _ _ _ (by omega) (by omega), and16 _ _ _ _ (by omega) (by omega), and16 _ _ _ _ (by omega) (by omega), and16 _ _ _ _ (by omega) (by omega), (jb_6 a4 h4).1]
theorem jb_c (a0 a1 a2 a3 a4 : Nat) (h0 : a0 < 16) (h1 : a1 < 16) (h2 : a2 < 16) (h3 : a3 < 16) (h4 : a4 < 16) : ((a0 + 16 * (a1 + 16 * (a2 + 16 * (a3 + 16 * a4)))) / 4) &&& 858993459 = ((a0 / 4) &&& 3) + 16 * (((a1 / 4) &&& 3) + 16 * (((a2 / 4) &&& 3) + 16 * (((a3 / 4) &&& 3) + 16 * ((a4 / 4) &&& 3)))) := by
  have e : (a0 + 16 * (a1 + 16 * (a2 + 16 * (a3 + 16 * a4)))) / 4 = (a0 / 4 + 4 * (a1 % 4)) + 16 * ((a1 / 4 + 4 * (a2 % 4)) + 16 * ((a2 / 4 + 4 * (a3 % 4)) + 16 * ((a3 / 4 + 4 * (a4 % 4)) + 16 * (a4 / 4)))) := by omega
  have em : (858993459 : Nat) = 3 + 16 * (3 + 16 * (3 + 16 * (3 + 16 * 13107))) := by decide
  rw [e, em, and16 _ _ _ _ (by omega) (by omega), and16 _ _ _ _ (by omega) (by omega), and16 _ _ _ _ (by omega) (by omega), and16 _ _ _ _ (by omega) (by omega), (jb_6 a4 h4).2]
  rw [jb_2 a0 h0 _ (by omega), jb_2 a1 h1 _ (by omega), jb_2 a2 h2 _ (by omega), jb_2 a3 h3 _ (by omega)]
theorem jb_d (q0 q1 q2 q3 q4 : Nat) (h0 : q0 ≤ 4) (h1 : q1 ≤ 4) (h2 : q2 ≤ 4) (h3 : q3 ≤ 4) (h4 : q4 ≤ 4) : (q0 + 16 * (q1 + 16 * (q2 + 16 * (q3 + 16 * q4))) + (q0 + 16 * (q1 + 16 * (q2 + 16 * (q3 + 16 * q4)))) / 16) &&& 252645135 = (q0 + q1) + 256 * ((q2 + q3) + 256 * q4) := by
  have e : q0 + 16 * (q1 + 16 * (q2 + 16 * (q3 + 16 * q4))) + (q0 + 16 * (q1 + 16 * (q2 + 16 * (q3 + 16 * q4)))) / 16 = (q0 + q1) + 16 * ((q1 + q2) + 16 * ((q2 + q3) + 16 * ((q3 + q4) + 16 * q4))) := by omega
  have em : (252645135 : Nat) = 15 + 16 * (0 + 16 * (15 + 16 * (0 + 16 * 3855))) := by decide
  have k1 : ∀ n, n < 16 → n &&& 15 = n := by decide
  have k2 : ∀ n, n < 16 → n &&& 0 = 0 := by decide
  have k3 : ∀ n, n < 16 → n &&& 3855 = n := by decide
  rw [e, em, and16 _ _ _ _ (by omega) (by omega), and16 _ _ _ _ (by omega) (by omega), and16 _ _ _ _ (by omega) (by omega), and16 _ _ _ _ (by omega) (by omega)]
  rw [k1 _ (by omega), k1 _ (by omega), k2 _ (by omega), k2 _ (by omega), k3 _ (by omega)]
  omega
theorem jb_e (q0 q1 q2 q3 q4 c : Nat) (h0 : q0 ≤ 4) (h1 : q1 ≤ 4) (h2 : q2 ≤ 4) (h3 : q3 ≤ 4) (h4 : q4 ≤ 4) (hc : c = (q0 + q1) + 256 * ((q2 + q3) + 256 * q4)) : ((c + c / 256) + (c + c / 256) / 65536) &&& 63 = q0 + q1 + q2 + q3 + q4 := by
  rw [show (63 : Nat) = 2 ^ 6 - 1 by decide, Nat.and_two_pow_sub_one_eq_mod]
  have e1 : c / 256 = (q2 + q3) + 256 * q4 := by omega
  rw [e1]
  have e2 : (c + ((q2 + q3) + 256 * q4)) / 65536 = q4 := by omega
  rw [e2]
  omega
def jb1 (x : Nat) : Nat := x - ((x / 2) &&& 1431655765)
def jb2 (a : Nat) : Nat := (a &&& 858993459) + ((a / 4) &&& 858993459)
def jb3 (b : Nat) : Nat := (b + b / 16) &&& 252645135
def jb4 (c : Nat) : Nat := ((c + c / 256) + (c + c / 256) / 65536) &&& 63
theorem jb_n (n0 n1 n2 n3 m4 : Nat) (h0 : n0 < 16) (h1 : n1 < 16) (h2 : n2 < 16) (h3 : n3 < 16) (h4 : m4 < 16) :
    jb4 (jb3 (jb2 (jb1 (n0 + 16 * (n1 + 16 * (n2 + 16 * (n3 + 16 * m4))))))) = n4 n0 + n4 n1 + n4 n2 + n4 n3 + n4 m4 := by
  have e1 : jb1 (n0 + 16 * (n1 + 16 * (n2 + 16 * (n3 + 16 * m4)))) = (n0 - ((n0 / 2) &&& 5)) + 16 * ((n1 - ((n1 / 2) &&& 5)) + 16 * ((n2 - ((n2 / 2) &&& 5)) + 16 * ((n3 - ((n3 / 2) &&& 5)) + 16 * (m4 - ((m4 / 2) &&& 5))))) := by
    have l0 := jb_3 n0 h0
    have l1 := jb_3 n1 h1
    have l2 := jb_3 n2 h2
    have l3 := jb_3 n3 h3
    have l4 := jb_3 m4 h4
    rw [jb1, jb_a n0 n1 n2 n3 m4 h0 h1 h2 h3 h4]
    omega
  have e2 : ∀ a0 a1 a2 a3 a4, a0 < 16 → a1 < 16 → a2 < 16 → a3 < 16 → a4 < 16 → jb2 (a0 + 16 * (a1 + 16 * (a2 + 16 * (a3 + 16 * a4)))) = ((a0 &&& 3) + ((a0 / 4) &&& 3)) + 16 * (((a1 &&& 3) + ((a1 / 4) &&& 3)) + 16 * (((a2 &&& 3) + ((a2 / 4) &&& 3)) + 16 * (((a3 &&& 3) + ((a3 / 4) &&& 3)) + 16 * ((a4 &&& 3) + ((a4 / 4) &&& 3))))) := by
    intro a0 a1 a2 a3 a4 k0 k1 k2 k3 k4
    rw [jb2, jb_b a0 a1 a2 a3 a4 k0 k1 k2 k3 k4, jb_c a0 a1 a2 a3 a4 k0 k1 k2 k3 k4]
    omega
  rw [e1, e2 _ _ _ _ _ (by omega) (by omega) (by omega) (by omega) (by omega), jb_4 n0 h0, jb_4 n1 h1, jb_4 n2 h2, jb_4 n3 h3, jb_4 m4 h4]
  have e3 : ∀ q0 q1 q2 q3 q4, q0 ≤ 4 → q1 ≤ 4 → q2 ≤ 4 → q3 ≤ 4 → q4 ≤ 4 → jb4 (jb3 (q0 + 16 * (q1 + 16 * (q2 + 16 * (q3 + 16 * q4))))) = q0 + q1 + q2 + q3 + q4 := by
    intro q0 q1 q2 q3 q4 k0 k1 k2 k3 k4
    exact jb_e q0 q1 q2 q3 q4 _ k0 k1 k2 k3 k4 (jb_d q0 q1 q2 q3 q4 k0 k1 k2 k3 k4)
  have l4 : ∀ y, n4 y ≤ 4 := fun y => by unfold n4; omega
  exact e3 _ _ _ _ _ (l4 _) (l4 _) (l4 _) (l4 _) (l4 _)
theorem jb_pc {x : Nat} (hx : x < 1048576) : jb4 (jb3 (jb2 (jb1 x))) = pc x := by
  have h0 := Nat.mod_add_div x 16
  have h1 := Nat.mod_add_div (x / 16) 16
  have h2 := Nat.mod_add_div (x / 16 / 16) 16
  have h3 := Nat.mod_add_div (x / 16 / 16 / 16) 16
  have h4 : x / 16 / 16 / 16 / 16 < 16 := by
    have e : x / 16 / 16 / 16 / 16 = x / 65536 := by simp only [Nat.div_div_eq_div_mul, Nat.reduceMul]
    rw [e]
    omega
  have hm : ∀ y : Nat, y % 16 < 16 := fun y => Nat.mod_lt _ (by decide)
  have e := jb_n (x % 16) (x / 16 % 16) (x / 16 / 16 % 16) (x / 16 / 16 / 16 % 16) (x / 16 / 16 / 16 / 16) (hm _) (hm _) (hm _) (hm _) h4
  rw [h3, h2, h1, h0] at e
  exact e
theorem zn_ushr {a s : Nat} (ha : a < 2 ^ 32) (hs : s < 32) : sm_ushr (nI a) (nI s) = nI (a / 2 ^ s) := by
  have h1 : (((nI s).toUInt32 &&& Int32.toUInt32 31).toBitVec % 32).toNat = s := by
    have : ∀ s, s < 32 → (((nI s).toUInt32 &&& Int32.toUInt32 31).toBitVec % 32).toNat = s := by decide +kernel
    exact this s hs
  exact pk_ushrN ha _ s h1
theorem jI_1 {x : Nat} (hx : x < 1048576) : nI x - (sm_ushr (nI x) (nI 1) &&& nI 1431655765) = nI (jb1 x) := by
  have a1 := Nat.and_le_left (n := x / 2) (m := 1431655765)
  have a2 : x / 2 ^ 1 = x / 2 := rfl
  rw [zn_ushr (by omega) (by omega), zn_and, a2, pk_sub (by omega)]
  rfl
theorem jI_2 {a : Nat} (ha : a < 1048576) : (nI a &&& nI 858993459) + (sm_ushr (nI a) (nI 2) &&& nI 858993459) = nI (jb2 a) := by
  have a2 : a / 2 ^ 2 = a / 4 := rfl
  rw [zn_ushr (by omega) (by omega), zn_and, zn_and, a2, nI_add]
  rfl
theorem jI_3 {b : Nat} (hb : b < 2097152) : (nI b + sm_ushr (nI b) (nI 4)) &&& nI 252645135 = nI (jb3 b) := by
  have a2 : b / 2 ^ 4 = b / 16 := rfl
  rw [zn_ushr (by omega) (by omega), nI_add, zn_and, a2]
  rfl
theorem jI_4 {c : Nat} (hc : c < 4194304) : nI c + sm_ushr (nI c) (nI 8) = nI (c + c / 256) := by
  have a2 : c / 2 ^ 8 = c / 256 := rfl
  rw [zn_ushr (by omega) (by omega), nI_add, a2]
theorem jI_5 {d : Nat} (hd : d < 8388608) : nI d + sm_ushr (nI d) (nI 16) = nI (d + d / 65536) := by
  have a2 : d / 2 ^ 16 = d / 65536 := rfl
  rw [zn_ushr (by omega) (by omega), nI_add, a2]
theorem jb1_le (x : Nat) : jb1 x ≤ x := Nat.sub_le _ _
theorem jb2_le (x : Nat) : jb2 x ≤ 2 * x := by
  have h1 := Nat.and_le_left (n := x) (m := 858993459)
  have h2 := Nat.and_le_left (n := x / 4) (m := 858993459)
  unfold jb2
  omega
theorem jb3_le (x : Nat) : jb3 x ≤ 2 * x := by
  have h1 := Nat.and_le_left (n := x + x / 16) (m := 252645135)
  unfold jb3
  omega
section BITS
variable {CT : sm_CT} {G : Nat → Nat → Int32} {L : Nat → Nat → Int64} {Q : sm_Q} {S : Nat → Nat → Nat} {h : sm_H}
set_option maxRecDepth 100000 in
set_option maxHeartbeats 4000000 in
theorem s_bitCount (hC : sm_C 1 CT) {x : Nat} (hx : x < 1048576) (hQ : Q (some (.int (nI (pc x)))) h) : CT 141 [.int (nI x)] h Q := by
  rw [← jb_pc hx] at hQ
  have l1 := jb1_le x
  have l2 := jb2_le (jb1 x)
  have l3 := jb3_le (jb2 (jb1 x))
  refine sm_meth hC [some (.int (nI x))] rfl rfl rfl ?_
  have w5 : sm_Wk 0 141 Q none 41 [some (.int (nI (jb3 (jb2 (jb1 x)) + jb3 (jb2 (jb1 x)) / 256)))] [] h := by
    refine sm_body [48] 40 sm_k141 (fun CT K hC hK => ?_)
    repeat' first
      | (with_reducible refine And.intro ?_ ?_)
      | ((with_reducible intro h9); first | exact absurd h9 (by decide) | skip)
      | (with_reducible exact zn_in (by omega) (by decide))
      | (with_reducible exact z01) | (with_reducible exact z11) | (with_reducible exact zb01 _)
      | (with_reducible exact zn_inb (by omega) (by decide))
      | (with_reducible exact zn_ina (by omega) (by decide))
      | (with_reducible exact zn_inc (by omega) (by decide))
      | ((conv => whnf); first | (with_reducible refine And.intro ?_ ?_) | ((with_reducible intro h9); first | exact absurd h9 (by decide) | skip) | (with_reducible refine hK _ _ _ _ (sm_un ?_)))
    rw [jI_5 (by omega)]
    refine ⟨⟨?_⟩⟩
    refine sm_body [] 40 sm_k141 (fun CT K hC hK => ?_)
    repeat' first
      | (with_reducible refine And.intro ?_ ?_)
      | ((with_reducible intro h9); first | exact absurd h9 (by decide) | skip)
      | (with_reducible exact zn_in (by omega) (by decide))
      | (with_reducible exact z01) | (with_reducible exact z11) | (with_reducible exact zb01 _)
      | (with_reducible exact zn_inb (by omega) (by decide))
      | (with_reducible exact zn_ina (by omega) (by decide))
      | (with_reducible exact zn_inc (by omega) (by decide))
      | ((conv => whnf); first | (with_reducible refine And.intro ?_ ?_) | ((with_reducible intro h9); first | exact absurd h9 (by decide) | skip) | (with_reducible refine hK _ _ _ _ (sm_un ?_)))
    refine zq ?_ hQ
    rw [zn_and]
    rfl
  have w4 : sm_Wk 0 141 Q none 34 [some (.int (nI (jb3 (jb2 (jb1 x)))))] [] h := by
    refine sm_body [41] 40 sm_k141 (fun CT K hC hK => ?_)
    repeat' first
      | (with_reducible refine And.intro ?_ ?_)
      | ((with_reducible intro h9); first | exact absurd h9 (by decide) | skip)
      | (with_reducible exact zn_in (by omega) (by decide))
      | (with_reducible exact z01) | (with_reducible exact z11) | (with_reducible exact zb01 _)
      | (with_reducible exact zn_inb (by omega) (by decide))
      | (with_reducible exact zn_ina (by omega) (by decide))
      | (with_reducible exact zn_inc (by omega) (by decide))
      | ((conv => whnf); first | (with_reducible refine And.intro ?_ ?_) | ((with_reducible intro h9); first | exact absurd h9 (by decide) | skip) | (with_reducible refine hK _ _ _ _ (sm_un ?_)))
    rw [jI_4 (by omega)]
    exact ⟨⟨w5⟩⟩
  have w3 : sm_Wk 0 141 Q none 24 [some (.int (nI (jb2 (jb1 x))))] [] h := by
    refine sm_body [34] 40 sm_k141 (fun CT K hC hK => ?_)
    repeat' first
      | (with_reducible refine And.intro ?_ ?_)
      | ((with_reducible intro h9); first | exact absurd h9 (by decide) | skip)
      | (with_reducible exact zn_in (by omega) (by decide))
      | (with_reducible exact z01) | (with_reducible exact z11) | (with_reducible exact zb01 _)
      | (with_reducible exact zn_inb (by omega) (by decide))
      | (with_reducible exact zn_ina (by omega) (by decide))
      | (with_reducible exact zn_inc (by omega) (by decide))
      | ((conv => whnf); first | (with_reducible refine And.intro ?_ ?_) | ((with_reducible intro h9); first | exact absurd h9 (by decide) | skip) | (with_reducible refine hK _ _ _ _ (sm_un ?_)))
    rw [jI_3 (by omega)]
    exact ⟨⟨w4⟩⟩
  have w2 : sm_Wk 0 141 Q none 10 [some (.int (nI (jb1 x)))] [] h := by
    refine sm_body [24] 40 sm_k141 (fun CT K hC hK => ?_)
    repeat' first
      | (with_reducible refine And.intro ?_ ?_)
      | ((with_reducible intro h9); first | exact absurd h9 (by decide) | skip)
      | (with_reducible exact zn_in (by omega) (by decide))
      | (with_reducible exact z01) | (with_reducible exact z11) | (with_reducible exact zb01 _)
      | (with_reducible exact zn_inb (by omega) (by decide))
      | (with_reducible exact zn_ina (by omega) (by decide))
      | (with_reducible exact zn_inc (by omega) (by decide))
      | ((conv => whnf); first | (with_reducible refine And.intro ?_ ?_) | ((with_reducible intro h9); first | exact absurd h9 (by decide) | skip) | (with_reducible refine hK _ _ _ _ (sm_un ?_)))
    rw [jI_2 (by omega)]
    exact ⟨⟨w3⟩⟩
  refine sm_body [10] 40 sm_k141 (fun CT K hC hK => ?_)
  repeat' first
    | (with_reducible refine And.intro ?_ ?_)
    | ((with_reducible intro h9); first | exact absurd h9 (by decide) | skip)
    | (with_reducible exact zn_in (by omega) (by decide))
    | (with_reducible exact z01) | (with_reducible exact z11) | (with_reducible exact zb01 _)
    | (with_reducible exact zn_inb (by omega) (by decide))
    | (with_reducible exact zn_ina (by omega) (by decide))
    | (with_reducible exact zn_inc (by omega) (by decide))
    | ((conv => whnf); first | (with_reducible refine And.intro ?_ ?_) | ((with_reducible intro h9); first | exact absurd h9 (by decide) | skip) | (with_reducible refine hK _ _ _ _ (sm_un ?_)))
  rw [jI_1 (by omega)]
  exact ⟨⟨w2⟩⟩
end BITS
end
section
/-! Sets of vanes; oiling on both sides; the best place to ask for. -/
theorem d1_n4 (y : Nat) : n4 (y % 16) = y % 2 + y / 2 % 2 + y / 4 % 2 + y / 8 % 2 := by
  unfold n4
  omega
theorem pc_ct {f : Nat → Bool} : pc (bq 20 (fun k => bn (f k))) = ct f 20 := by
  have hx := bq_lt (c := fun k => bn (f k)) 20
  have hb : ∀ i, i < 20 → bq 20 (fun k => bn (f k)) / 2 ^ i % 2 = bn (f i) := fun i hi => by rw [bq_bit, decide_eq_true hi]; rfl
  generalize bq 20 (fun k => bn (f k)) = x at *
  have st : ∀ n, n + 4 ≤ 20 → ∀ y, y = x / 2 ^ n → ct f n + n4 (y % 16) = ct f (n + 4) := by
    intro n hn y hy
    rw [d1_n4]
    have c0 : y % 2 = bn (f n) := by rw [hy, hb n (by omega)]
    have c1 : y / 2 % 2 = bn (f (n + 1)) := by rw [hy, Nat.div_div_eq_div_mul, ← Nat.pow_succ, hb (n + 1) (by omega)]
    have c2 : y / 4 % 2 = bn (f (n + 2)) := by rw [hy, Nat.div_div_eq_div_mul, show (4 : Nat) = 2 ^ 2 from rfl, ← Nat.pow_add, hb (n + 2) (by omega)]
    have c3 : y / 8 % 2 = bn (f (n + 3)) := by rw [hy, Nat.div_div_eq_div_mul, show (8 : Nat) = 2 ^ 3 from rfl, ← Nat.pow_add, hb (n + 3) (by omega)]
    rw [c0, c1, c2, c3]
    show _ = ct f n + bn (f n) + bn (f (n + 1)) + bn (f (n + 2)) + bn (f (n + 3))
    omega
  have s0 : ct f 0 + n4 (x % 16) = ct f 4 := st 0 (by decide) x (by rw [Nat.pow_zero, Nat.div_one])
  have s1 : ct f 4 + n4 (x / 16 % 16) = ct f 8 := st 4 (by decide) (x / 16) rfl
  have s2 : ct f 8 + n4 (x / 16 / 16 % 16) = ct f 12 := st 8 (by decide) (x / 16 / 16) (by rw [Nat.div_div_eq_div_mul])
  have s3 : ct f 12 + n4 (x / 16 / 16 / 16 % 16) = ct f 16 := st 12 (by decide) (x / 16 / 16 / 16) (by simp only [Nat.div_div_eq_div_mul, Nat.reduceMul, Nat.reducePow])
  have s4 : ct f 16 + n4 (x / 16 / 16 / 16 / 16 % 16) = ct f 20 := st 16 (by decide) (x / 16 / 16 / 16 / 16) (by simp only [Nat.div_div_eq_div_mul, Nat.reduceMul, Nat.reducePow])
  have h4 : x / 16 / 16 / 16 / 16 % 16 = x / 16 / 16 / 16 / 16 := by
    have e : x / 16 / 16 / 16 / 16 = x / 65536 := by simp only [Nat.div_div_eq_div_mul, Nat.reduceMul]
    rw [e]
    omega
  rw [h4] at s4
  have z : ct f 0 = 0 := rfl
  unfold pc
  omega
/-- is a vane in the set -/
def inS (x v : Nat) : Bool := Nat.beq (x / 2 ^ v % 2) 1
theorem pc_16 : ∀ x, x < 16 → pc x = ct (inS x) 4 := by decide +kernel
/-- the fewest (of like ones the least) of the sets below n; 16: none -/
def fw (P : Nat → Bool) : Nat → Nat
  | 0 => 16
  | n + 1 => if (fw P n = 16 ∨ pc n < pc (fw P n)) ∧ P n = true then n else fw P n
theorem fw_lt {P : Nat → Bool} : ∀ n, fw P n < n ∨ fw P n = 16
  | 0 => Or.inr rfl
  | n + 1 => by
    have := fw_lt (P := P) n
    rw [fw]
    split
    · exact Or.inl (Nat.lt_succ_self n)
    · omega
theorem fw_A {P : Nat → Bool} {n : Nat} (h : ¬ ((fw P n = 16 ∨ pc n < pc (fw P n)) ∧ P n = true)) : fw P (n + 1) = fw P n := by
  rw [fw]
  split
  · rename_i h2
    exact absurd h2 h
  · rfl
theorem fw_B {P : Nat → Bool} {n : Nat} (h : (fw P n = 16 ∨ pc n < pc (fw P n)) ∧ P n = true) : fw P (n + 1) = n := by
  rw [fw]
  split
  · rfl
  · rename_i h2
    exact absurd h h2
theorem fw_congr {P P' : Nat → Bool} : ∀ {n}, (∀ x, x < n → P x = P' x) → fw P n = fw P' n
  | 0, _ => rfl
  | n + 1, h => by
    rw [fw, fw, fw_congr (n := n) (fun x hx => h x (by omega)), h n (by omega)]
def bI16 (b : Nat) : Int32 := if b < 16 then nI b else -1
/-- size or set, as asked -/
def soR (b j : Nat) : Int32 := if b = 16 then -1 else if j = 1 then nI b else nI (pc b)
theorem bI16_m {b : Nat} (hb : b ≤ 16) : bI16 b = -1 ↔ b = 16 := by
  unfold bI16
  by_cases h : b < 16
  · rw [if_pos h]; exact ⟨fun e => absurd e (zn_nem (by omega)), fun e => by omega⟩
  · rw [if_neg h]; exact ⟨fun _ => by omega, fun _ => rfl⟩
theorem bI16_n {b : Nat} (hb : b < 16) : bI16 b = nI b := if_pos hb
theorem pc_le : ∀ x, x < 16 → pc x ≤ 4 := by decide +kernel
section OIL
variable {CT : sm_CT} {G : Nat → Nat → Int32} {L : Nat → Nat → Int64} {Q : sm_Q} {S : Nat → Nat → Nat} {h : sm_H}
set_option maxRecDepth 100000 in
set_option maxHeartbeats 4000000 in
theorem s_size (hC : sm_C 1 CT) {x : Nat} (hx : x < 16) (hQ : Q (some (.int (nI (pc x)))) h) : CT 81 [.int (nI x)] h Q := by
  rw [pc_16 x hx] at hQ
  refine sm_meth hC [some (.int (nI x)), none, none] rfl rfl rfl ?_
  have lo : ∀ i, i ≤ 4 → sm_Wk 0 81 Q none 4 [some (.int (nI x)), some (.int (nI (ct (inS x) i))), some (.int (nI i))] [] h := by
    refine up _ (fun i hi ih => ?_)
    have eb : i < 4 → sm_shr (nI x) (nI i) &&& nI 1 = nI (bn (inS x i)) := fun hi => by rw [zn_bit (by omega) (by omega), inS, bn_beq1]
    refine sm_body [4] 40 sm_k81 (fun CT K hC hK => ?_)
    repeat' first
      | (with_reducible refine And.intro ?_ ?_)
      | ((with_reducible intro h9); first | exact absurd h9 (by decide) | (replace h9 := zle (by omega) (by omega) h9) | (replace h9 := znle (by omega) (by omega) h9) | skip)
      | (with_reducible exact zn_in (by omega) (by decide))
      | (with_reducible exact z01) | (with_reducible exact z11) | (with_reducible exact zb01 _)
      | (with_reducible exact zn_inb (by omega) (by decide))
      | (with_reducible exact zn_ina (by omega) (by decide))
      | (with_reducible exact zn_inc (by omega) (by decide))
      | ((conv => whnf); first | (with_reducible refine And.intro ?_ ?_) | ((with_reducible intro h9); first | exact absurd h9 (by decide) | (replace h9 := zle (by omega) (by omega) h9) | (replace h9 := znle (by omega) (by omega) h9) | skip) | (with_reducible refine hK _ _ _ _ (sm_un ?_)))
    · obtain rfl : i = 4 := by omega
      exact hQ
    · simp only [eb ‹_›, nI_add]
      exact ⟨⟨ih ‹_›⟩⟩
  refine sm_body [4] 40 sm_k81 (fun CT K hC hK => ?_)
  repeat' first
    | (with_reducible refine And.intro ?_ ?_)
    | ((with_reducible intro h9); first | exact absurd h9 (by decide) | skip)
    | (with_reducible exact zn_in (by omega) (by decide))
    | (with_reducible exact z01) | (with_reducible exact z11) | (with_reducible exact zb01 _)
    | (with_reducible exact zn_inb (by omega) (by decide))
    | (with_reducible exact zn_ina (by omega) (by decide))
    | (with_reducible exact zn_inc (by omega) (by decide))
    | ((conv => whnf); first | (with_reducible refine And.intro ?_ ?_) | ((with_reducible intro h9); first | exact absurd h9 (by decide) | skip) | (with_reducible refine hK _ _ _ _ (sm_un ?_)))
  exact ⟨⟨lo 0 (Nat.zero_le _)⟩⟩
set_option maxRecDepth 100000 in
set_option maxHeartbeats 4000000 in
theorem s_isFewer (hC : sm_C 2 CT) {x b : Nat} (hx : x < 16) (hb : b ≤ 16) (hQ : Q (some (.int (sm_b (decide (b = 16 ∨ pc x < pc b))))) h) : CT 71 [.int (nI x), .int (bI16 b)] h Q := by
  refine sm_meth hC [some (.int (nI x)), some (.int (bI16 b))] rfl rfl rfl ?_
  refine sm_body [] 40 sm_k71 (fun CT K hC hK => ?_)
  have lx := pc_le x hx
  have lb : ¬ b = 16 → pc b ≤ 4 := fun h => pc_le b (by omega)
  repeat' first
    | (with_reducible refine And.intro ?_ ?_)
    | ((with_reducible intro h9); first | exact absurd h9 (by decide) | (rw [bI16_m hb] at h9) | (replace h9 := zle (by omega) (by omega) h9) | (replace h9 := znle (by omega) (by omega) h9) | skip)
    | (with_reducible exact zn_in (by omega) (by decide))
    | (with_reducible exact z01) | (with_reducible exact z11) | (with_reducible exact zb01 _)
    | (with_reducible exact zn_inb (by omega) (by decide))
    | (with_reducible exact zn_ina (by omega) (by decide))
    | (with_reducible exact zn_inc (by omega) (by decide))
    | ((conv => whnf); first | (with_reducible refine And.intro ?_ ?_) | ((with_reducible intro h9); first | exact absurd h9 (by decide) | (rw [bI16_m hb] at h9) | (replace h9 := zle (by omega) (by omega) h9) | (replace h9 := znle (by omega) (by omega) h9) | skip) | (with_reducible refine hK _ _ _ _ (sm_un ?_)) | (with_reducible refine s_bitCount (hC.mono (by omega)) (by omega) ?_) | (rw [bI16_n (by omega)]; refine s_bitCount (hC.mono (by omega)) (by omega) ?_))
  all_goals have lb := lb
  all_goals first
    | (exact zq (dc_t (Or.inl h9)) hQ)
    | (exact zq (dc_f (fun z => by rcases z with z | z <;> omega)) hQ)
    | (exact zq (dc_t (Or.inr h9)) hQ)
set_option maxRecDepth 100000 in
set_option maxHeartbeats 4000000 in
theorem s_sizeOrSet (hC : sm_C 2 CT) {b j : Nat} (hb : b ≤ 16) (hj : j < 2) (hQ : Q (some (.int (soR b j))) h) : CT 72 [.int (bI16 b), .int (nI j)] h Q := by
  refine sm_meth hC [some (.int (bI16 b)), some (.int (nI j))] rfl rfl rfl ?_
  refine sm_body [] 40 sm_k72 (fun CT K hC hK => ?_)
  unfold soR at hQ
  repeat' first
    | (with_reducible refine And.intro ?_ ?_)
    | ((with_reducible intro h9); first | exact absurd h9 (by decide) | (rw [bI16_m hb] at h9) | skip)
    | (with_reducible exact zn_in (by omega) (by decide))
    | (with_reducible exact z01) | (with_reducible exact z11) | (with_reducible exact zb01 _)
    | (with_reducible exact zn_inb (by omega) (by decide))
    | (with_reducible exact zn_ina (by omega) (by decide))
    | (with_reducible exact zn_inc (by omega) (by decide))
    | ((conv => whnf); first | (with_reducible refine And.intro ?_ ?_) | ((with_reducible intro h9); first | exact absurd h9 (by decide) | (rw [bI16_m hb] at h9) | skip) | (with_reducible refine hK _ _ _ _ (sm_un ?_)) | (rw [bI16_n (by omega)]; refine s_bitCount (hC.mono (by omega)) (by omega) ?_))
  · rw [if_pos ‹b = 16›] at hQ
    refine zq ?_ hQ
    exact (bI16_m hb).mpr ‹b = 16›
  · rw [if_neg ‹¬ b = 16›, if_neg (zneq h9)] at hQ
    exact hQ
  · rw [if_neg ‹¬ b = 16›, if_pos (zeq (by omega) (by omega) h9)] at hQ
    refine zq ?_ hQ
    exact bI16_n (by omega)
set_option maxRecDepth 100000 in
set_option maxHeartbeats 4000000 in
theorem s_pointBy (hC : sm_C 3 CT) (hD : mD S G) (hR : dR S) {v t x : Nat} (hv : v < S 0 1) (ht : t < 4) (hx : x < S 0 0) (hk : ∀ i, i < x + 1 → S 1 i < 4) (hQ : Q (some (.int (nI (pb S v t (x + 1))))) (hp G L)) : CT 126 [.ref 30, .int (nI v), .int (nI t), .int (nI x)] (hp G L) Q := by
  obtain ⟨e1, e2, e3, e4⟩ := hD
  obtain ⟨r1, r2, r3, r4⟩ := hR
  have cv : (nI v).toNatClampNeg = v := nI_clamp (by omega)
  refine sm_meth hC [some (.ref 30), some (.int (nI v)), some (.int (nI t)), some (.int (nI x)), none, none] rfl rfl rfl ?_
  have lo : ∀ i, i ≤ x + 1 → sm_Wk 2 126 Q none 11 [some (.ref 30), some (.int (nI v)), some (.int (nI t)), some (.int (nI x)), some (.int (nI (pb S v t i))), some (.int (nI i))] [] (hp G L) := by
    refine up _ (fun i hi ih => ?_)
    refine sm_body [11] 60 sm_k126 (fun CT K hC hK => ?_)
    repeat' first
      | (with_reducible refine And.intro ?_ ?_)
      | ((with_reducible intro h9); first | exact absurd h9 (by decide) | (replace h9 := zlt (by omega) (by omega) h9) | (replace h9 := znl (by omega) (by omega) h9) | skip)
      | (with_reducible exact zn_in (by omega) (by decide))
      | (with_reducible exact z01) | (with_reducible exact z11) | (with_reducible exact zb01 _)
      | (with_reducible exact zn_inb (by omega) (by decide))
      | (with_reducible exact zn_ina (by omega) (by decide))
      | (with_reducible exact zn_inc (by omega) (by decide))
      | ((conv => whnf); first | (with_reducible refine And.intro ?_ ?_) | ((with_reducible intro h9); first | exact absurd h9 (by decide) | (replace h9 := zlt (by omega) (by omega) h9) | (replace h9 := znl (by omega) (by omega) h9) | skip) | (with_reducible refine hK _ _ _ _ (sm_un ?_)) | (simp only [cv, zn_clI (show i < 2 ^ 31 by omega), (e4 v hv).1, e3 i (show i < S 0 0 by omega), wI_t (hk i (by omega))]; refine s_turnedM (hC.mono (by decide)) (r4 v hv).1 ht (pb_lt (r4 v hv).2.1 i (fun j hj => hk j (by omega))) (hk i (by omega)) ?_))
    all_goals first
      | ((obtain rfl : i = x + 1 := by omega); exact hQ)
      | (simp only [nI_add]; exact ⟨⟨ih (by omega)⟩⟩)
  refine sm_body [11] 40 sm_k126 (fun CT K hC hK => ?_)
  repeat' first
    | (with_reducible refine And.intro ?_ ?_)
    | ((with_reducible intro h9); first | exact absurd h9 (by decide) | skip)
    | (with_reducible exact zn_in (by omega) (by decide))
    | (with_reducible exact z01) | (with_reducible exact z11) | (with_reducible exact zb01 _)
    | (with_reducible exact zn_inb (by omega) (by decide))
    | (with_reducible exact zn_ina (by omega) (by decide))
    | (with_reducible exact zn_inc (by omega) (by decide))
    | ((conv => whnf); first | (with_reducible refine And.intro ?_ ?_) | ((with_reducible intro h9); first | exact absurd h9 (by decide) | skip) | (with_reducible refine hK _ _ _ _ (sm_un ?_)))
  simp only [cv, (e4 v hv).2.1]
  exact ⟨⟨lo 0 (Nat.zero_le _)⟩⟩
set_option maxRecDepth 100000 in
set_option maxHeartbeats 4000000 in
theorem s_isKnownTill (hC : sm_C 1 CT) (hD : mD S G) (hR : dR S) {x : Nat} (hx : x < S 0 0) (hQ : Q (some (.int (sm_b (decide (∀ i, i < x + 1 → S 1 i < 4))))) (hp G L)) : CT 125 [.ref 30, .int (nI x)] (hp G L) Q := by
  obtain ⟨e1, e2, e3, e4⟩ := hD
  obtain ⟨r1, r2, r3, r4⟩ := hR
  refine sm_meth hC [some (.ref 30), some (.int (nI x)), none, none] rfl rfl rfl ?_
  have lo : ∀ i, i ≤ x + 1 → ∀ b, b = decide (∀ j, j < i → S 1 j < 4) → sm_Wk 0 125 Q none 4 [some (.ref 30), some (.int (nI x)), some (.int (sm_b b)), some (.int (nI i))] [] (hp G L) := by
    refine up _ (fun i hi ih b hb => ?_)
    refine sm_body [4] 60 sm_k125 (fun CT K hC hK => ?_)
    have eb : i ≤ x → (G 31 (nI i).toNatClampNeg = -1 ↔ S 1 i = 4) := by
      intro hl
      rw [zn_clI (by omega), e3 i (by omega), wI_m (r3 i (by omega))]
    repeat' first
      | (with_reducible refine And.intro ?_ ?_)
      | ((with_reducible intro h9); first | exact absurd h9 (by decide) | (rw [eb ‹_›] at h9) | (replace h9 := zlt (by omega) (by omega) h9) | (replace h9 := znl (by omega) (by omega) h9) | (replace h9 := sb_f h9) | (replace h9 := sb_t h9) | skip)
      | (with_reducible exact zn_in (by omega) (by decide))
      | (with_reducible exact z01) | (with_reducible exact z11) | (with_reducible exact zb01 _)
      | (with_reducible exact zn_inb (by omega) (by decide))
      | (with_reducible exact zn_ina (by omega) (by decide))
      | (with_reducible exact zn_inc (by omega) (by decide))
      | ((conv => whnf); first | (with_reducible refine And.intro ?_ ?_) | ((with_reducible intro h9); first | exact absurd h9 (by decide) | (rw [eb ‹_›] at h9) | (replace h9 := zlt (by omega) (by omega) h9) | (replace h9 := znl (by omega) (by omega) h9) | (replace h9 := sb_f h9) | (replace h9 := sb_t h9) | skip) | (with_reducible refine hK _ _ _ _ (sm_un ?_)))
    · obtain rfl : i = x + 1 := by omega
      subst hb
      exact hQ
    · simp only [nI_add]; exact ⟨⟨ih (by omega) false (by rw [h9] at hb; refine (decide_eq_false (fun z => ?_)).symm; exact absurd hb.symm (by rw [decide_eq_true (fun k hk => z k (by omega))]; decide))⟩⟩
    · simp only [nI_add]; exact ⟨⟨ih (by omega) false (decide_eq_false (fun z => by have := z i (by omega); omega)).symm⟩⟩
    · have hb' : b = true := ‹b = true›
      rw [hb'] at hb
      have hz := of_decide_eq_true hb.symm
      have hi4 := r3 i (by omega)
      simp only [nI_add]; exact ⟨⟨ih (by omega) true (decide_eq_true (fun k hk => if e : k = i then (by subst e; omega) else hz k (by omega))).symm⟩⟩
  refine sm_body [4] 40 sm_k125 (fun CT K hC hK => ?_)
  repeat' first
    | (with_reducible refine And.intro ?_ ?_)
    | ((with_reducible intro h9); first | exact absurd h9 (by decide) | skip)
    | (with_reducible exact zn_in (by omega) (by decide))
    | (with_reducible exact z01) | (with_reducible exact z11) | (with_reducible exact zb01 _)
    | (with_reducible exact zn_inb (by omega) (by decide))
    | (with_reducible exact zn_ina (by omega) (by decide))
    | (with_reducible exact zn_inc (by omega) (by decide))
    | ((conv => whnf); first | (with_reducible refine And.intro ?_ ?_) | ((with_reducible intro h9); first | exact absurd h9 (by decide) | skip) | (with_reducible refine hK _ _ _ _ (sm_un ?_)))
  exact ⟨⟨lo 0 (Nat.zero_le _) true (decide_eq_true (fun k hk => absurd hk (Nat.not_lt_zero _))).symm⟩⟩
/-- the vane points there, oiled another way -/
def cb (S : Nat → Nat → Nat) (x q v : Nat) : Nat → Bool
  | 0 => false
  | t + 1 => cb S x q v t || (!Nat.beq t (S 4 v) && Nat.beq (pb S v t (x + 1)) q)
set_option maxRecDepth 100000 in
set_option maxHeartbeats 4000000 in
theorem s_canBy (hC : sm_C 4 CT) (hD : mD S G) (hR : dR S) {v x q : Nat} (hv : v < S 0 1) (hx : x < S 0 0) (hq : q < 4) (hk : ∀ i, i < x + 1 → S 1 i < 4) (hQ : Q (some (.int (sm_b (cb S x q v 4)))) (hp G L)) : CT 127 [.ref 30, .int (nI v), .int (nI x), .int (nI q)] (hp G L) Q := by
  obtain ⟨e1, e2, e3, e4⟩ := id hD
  obtain ⟨r1, r2, r3, r4⟩ := id hR
  have cv : (nI v).toNatClampNeg = v := nI_clamp (by omega)
  have h4 := r4 v hv
  refine sm_meth hC [some (.ref 30), some (.int (nI v)), some (.int (nI x)), some (.int (nI q)), none, none] rfl rfl rfl ?_
  have lo : ∀ i, i ≤ 4 → sm_Wk 3 127 Q none 6 [some (.ref 30), some (.int (nI v)), some (.int (nI x)), some (.int (nI q)), some (.int (sm_b (cb S x q v i))), some (.int (nI i))] [] (hp G L) := by
    refine up _ (fun i hi ih => ?_)
    have hp4 := pb_lt (S := S) (v := v) (t := i) h4.2.1 (x + 1) hk
    refine sm_body [6] 60 sm_k127 (fun CT K hC hK => ?_)
    repeat' first
      | (with_reducible refine And.intro ?_ ?_)
      | ((with_reducible intro h9); first | exact absurd h9 (by decide) | (replace h9 := zle (by omega) (by omega) h9) | (replace h9 := znle (by omega) (by omega) h9) | (replace h9 := sb_f h9) | (replace h9 := sb_t h9) | ((rw [cv, (e4 v hv).2.2] at h9; replace h9 := zneq h9)) | ((rw [cv, (e4 v hv).2.2] at h9; replace h9 := zeq (by omega) (by omega) h9)) | (replace h9 := zneq h9) | (replace h9 := zeq (by omega) (by omega) h9) | skip)
      | (with_reducible exact zn_in (by omega) (by decide))
      | (with_reducible exact z01) | (with_reducible exact z11) | (with_reducible exact zb01 _)
      | (with_reducible exact zn_inb (by omega) (by decide))
      | (with_reducible exact zn_ina (by omega) (by decide))
      | (with_reducible exact zn_inc (by omega) (by decide))
      | ((conv => whnf); first | (with_reducible refine And.intro ?_ ?_) | ((with_reducible intro h9); first | exact absurd h9 (by decide) | (replace h9 := zle (by omega) (by omega) h9) | (replace h9 := znle (by omega) (by omega) h9) | (replace h9 := sb_f h9) | (replace h9 := sb_t h9) | ((rw [cv, (e4 v hv).2.2] at h9; replace h9 := zneq h9)) | ((rw [cv, (e4 v hv).2.2] at h9; replace h9 := zeq (by omega) (by omega) h9)) | (replace h9 := zneq h9) | (replace h9 := zeq (by omega) (by omega) h9) | skip) | (with_reducible refine hK _ _ _ _ (sm_un ?_)) | (with_reducible refine s_pointBy (hC.mono (by omega)) hD hR hv ‹_› hx hk ?_))
    · obtain rfl : i = 4 := by omega
      exact hQ
    · have e := ih ‹_›
      rw [cb, h9, Bool.true_or] at e
      simp only [nI_add]; exact ⟨⟨e⟩⟩
    · have e := ih ‹_›
      rw [cb, ‹cb S x q v i = false›, beq_t h9] at e
      simp only [nI_add]; exact ⟨⟨e⟩⟩
    · have e := ih ‹_›
      rw [cb, ‹cb S x q v i = false›, beq_f ‹i ≠ S 4 v›, beq_f h9] at e
      simp only [nI_add]; exact ⟨⟨e⟩⟩
    · have e := ih ‹_›
      rw [cb, ‹cb S x q v i = false›, beq_f ‹i ≠ S 4 v›, beq_t h9] at e
      simp only [nI_add]; exact ⟨⟨e⟩⟩
  refine sm_body [6] 40 sm_k127 (fun CT K hC hK => ?_)
  repeat' first
    | (with_reducible refine And.intro ?_ ?_)
    | ((with_reducible intro h9); first | exact absurd h9 (by decide) | skip)
    | (with_reducible exact zn_in (by omega) (by decide))
    | (with_reducible exact z01) | (with_reducible exact z11) | (with_reducible exact zb01 _)
    | (with_reducible exact zn_inb (by omega) (by decide))
    | (with_reducible exact zn_ina (by omega) (by decide))
    | (with_reducible exact zn_inc (by omega) (by decide))
    | ((conv => whnf); first | (with_reducible refine And.intro ?_ ?_) | ((with_reducible intro h9); first | exact absurd h9 (by decide) | skip) | (with_reducible refine hK _ _ _ _ (sm_un ?_)))
  exact ⟨⟨lo 0 (Nat.zero_le _)⟩⟩
end OIL
end
section
section OIL
variable {CT : sm_CT} {G : Nat → Nat → Int32} {L : Nat → Nat → Int64} {Q : sm_Q} {S : Nat → Nat → Nat} {h : sm_H}
/-- the vane points there as it is -/
def p0 (S : Nat → Nat → Nat) (x q v : Nat) : Bool := Nat.beq (pb S v (S 4 v) (x + 1)) q
def pO (S : Nat → Nat → Nat) (x q s v : Nat) : Bool := cond (inS s v) (cb S x q v 4) (p0 S x q v)
/-- more than half point there, these oiled -/
def PO (S : Nat → Nat → Nat) (x q s : Nat) : Bool := decide (S 0 1 < 2 * ct (pO S x q s) (S 0 1))
def oilR (S : Nat → Nat → Nat) (x q j : Nat) : Int32 := soR (fw (PO S x q) (2 ^ S 0 1)) j
theorem pow_vn {n : Nat} (h : n ≤ 4) : 2 ^ n ≤ 16 := Nat.pow_le_pow_right (n := 2) (by decide) h
theorem bit_in {x i : Nat} (hx : x < 2 ^ 31) (hi : i < 32) : sm_shr (nI x) (nI i) &&& nI 1 = nI (bn (inS x i)) := by rw [zn_bit hx hi, inS, bn_beq1]
theorem bn1 {b : Bool} (h : nI (bn b) = nI 1) : b = true := by
  cases b
  · exact absurd h (by decide)
  · rfl
theorem bn0 {b : Bool} (h : ¬ nI (bn b) = nI 1) : b = false := by
  cases b
  · rfl
  · exact absurd rfl h
set_option maxRecDepth 100000 in
set_option maxHeartbeats 4000000 in
theorem s_oilingNow (hC : sm_C 5 CT) (hD : mD S G) (hR : dR S) {x q j : Nat} (hx : x < S 0 0) (hq : q < 4) (hj : j < 2) (hk : ∀ i, i < x + 1 → S 1 i < 4) (hQ : Q (some (.int (oilR S x q j))) (hp G L)) : CT 128 [.ref 30, .int (nI x), .int (nI q), .int (nI j)] (hp G L) Q := by
  obtain ⟨e1, e2, e3, e4⟩ := id hD
  obtain ⟨r1, r2, r3, r4⟩ := id hR
  have hp2 := pow_vn r2
  have es : sm_shl (nI 1) (nI (S 0 1)) = nI (2 ^ S 0 1) := by rw [zn_shl (by omega), Nat.one_mul]
  refine sm_meth hC [some (.ref 30), some (.int (nI x)), some (.int (nI q)), some (.int (nI j)), none, none, none, none, none, none] rfl rfl rfl ?_
  have lo : ∀ i, i ≤ 2 ^ S 0 1 → ∀ o6 o7 o8 o9, sm_Wk 4 128 Q none 6 [some (.ref 30), some (.int (nI x)), some (.int (nI q)), some (.int (nI j)), some (.int (bI16 (fw (PO S x q) i))), some (.int (nI i)), o6, o7, o8, o9] [] (hp G L) := by
    refine up _ (fun i hi ih o6 o7 o8 o9 => ?_)
    have hfw := fw_lt (P := PO S x q) i
    have hb16 : fw (PO S x q) i ≤ 16 := by omega
    have inner : i < 2 ^ S 0 1 → ∀ v, v ≤ S 0 1 → ∀ o8 o9, sm_Wk 4 128 Q none 23 [some (.ref 30), some (.int (nI x)), some (.int (nI q)), some (.int (nI j)), some (.int (bI16 (fw (PO S x q) i))), some (.int (nI i)), some (.int (nI (ct (pO S x q i) v))), some (.int (nI v)), o8, o9] [] (hp G L) := by
      intro hl
      refine up _ (fun v hv ihv o8 o9 => ?_)
      have hct := ct_le (P := pO S x q i) v
      have lx := pc_le i (by omega)
      have lb : ¬ fw (PO S x q) i = 16 → pc (fw (PO S x q) i) ≤ 4 := fun h => pc_le _ (by omega)
      have hp4 : v < S 0 1 → pb S v (S 4 v) (x + 1) < 4 := fun h => pb_lt (r4 v h).2.1 (x + 1) hk
      refine sm_body [6, 23] 120 sm_k128 (fun CT K hC hK => ?_)
      repeat' first
        | (with_reducible refine And.intro ?_ ?_)
        | ((with_reducible intro h9); first | exact absurd h9 (by decide) | (replace h9 := nle e2 (by omega) (by omega) h9) | (replace h9 := yle e2 (by omega) (by omega) h9) | ((rw [bit_in (by omega) (by omega)] at h9; replace h9 := bn1 h9)) | ((rw [bit_in (by omega) (by omega)] at h9; replace h9 := bn0 h9)) | (rw [bI16_m hb16] at h9) | (replace h9 := sb_f h9) | (replace h9 := sb_t h9) | ((rw [e2, pk_mul] at h9; replace h9 := zle (by omega) (by omega) h9)) | ((rw [e2, pk_mul] at h9; replace h9 := znle (by omega) (by omega) h9)) | (replace h9 := zle (by omega) (by omega) h9) | (replace h9 := znle (by omega) (by omega) h9) | (replace h9 := zneq h9) | (replace h9 := zeq (by have := hp4 ‹_›; omega) (by omega) h9) | skip)
        | (with_reducible exact zn_in (by omega) (by decide))
        | (with_reducible exact z01) | (with_reducible exact z11) | (with_reducible exact zb01 _)
        | (with_reducible exact zn_inb (by omega) (by decide))
        | (with_reducible exact zn_ina (by omega) (by decide))
        | (with_reducible exact zn_inc (by omega) (by decide))
        | ((conv => whnf); first | (with_reducible refine And.intro ?_ ?_) | ((with_reducible intro h9); first | exact absurd h9 (by decide) | (replace h9 := nle e2 (by omega) (by omega) h9) | (replace h9 := yle e2 (by omega) (by omega) h9) | ((rw [bit_in (by omega) (by omega)] at h9; replace h9 := bn1 h9)) | ((rw [bit_in (by omega) (by omega)] at h9; replace h9 := bn0 h9)) | (rw [bI16_m hb16] at h9) | (replace h9 := sb_f h9) | (replace h9 := sb_t h9) | ((rw [e2, pk_mul] at h9; replace h9 := zle (by omega) (by omega) h9)) | ((rw [e2, pk_mul] at h9; replace h9 := znle (by omega) (by omega) h9)) | (replace h9 := zle (by omega) (by omega) h9) | (replace h9 := znle (by omega) (by omega) h9) | (replace h9 := zneq h9) | (replace h9 := zeq (by have := hp4 ‹_›; omega) (by omega) h9) | skip) | (with_reducible refine hK _ _ _ _ (sm_un ?_)) | (with_reducible refine s_canBy (hC.mono (by omega)) hD hR ‹_› hx hq hk ?_) | (rw [zn_clI (show v < 2 ^ 31 by omega), (e4 v ‹_›).2.2]; refine s_pointBy (hC.mono (by omega)) hD hR ‹_› (r4 v ‹_›).2.2 hx hk ?_) | (with_reducible refine s_size (hC.mono (by omega)) (by omega) ?_) | (rw [bI16_n (by omega)]; refine s_size (hC.mono (by omega)) (by omega) ?_))
      · obtain rfl : v = S 0 1 := by omega
        have e := ih hl (some (.int (nI (ct (pO S x q i) (S 0 1))))) (some (.int (nI 1))) o8 o9
        rw [fw_A (fun z => by have hP : PO S x q i = false := decide_eq_false (by omega); rw [hP] at z; exact absurd z.2 (by decide))] at e
        simp only [nI_add]; exact ⟨⟨e⟩⟩
      · obtain rfl : v = S 0 1 := by omega
        have e := ih hl (some (.int (nI (ct (pO S x q i) (S 0 1))))) (some (.int (nI 1))) o8 o9
        rw [fw_B ⟨Or.inl ‹fw (PO S x q) i = 16›, decide_eq_true (by omega)⟩, bI16_n (by omega)] at e
        simp only [nI_add]; exact ⟨⟨e⟩⟩
      · obtain rfl : v = S 0 1 := by omega
        have e := ih hl (some (.int (nI (ct (pO S x q i) (S 0 1))))) (some (.int (nI 0))) o8 o9
        rw [fw_A (fun z => by have := z.1; omega), bI16_n (by omega)] at e
        simp only [nI_add]; exact ⟨⟨e⟩⟩
      · obtain rfl : v = S 0 1 := by omega
        have e := ih hl (some (.int (nI (ct (pO S x q i) (S 0 1))))) (some (.int (nI 1))) o8 o9
        rw [fw_A (fun z => by have hP : PO S x q i = false := decide_eq_false (by omega); rw [hP] at z; exact absurd z.2 (by decide)), bI16_n (by omega)] at e
        simp only [nI_add]; exact ⟨⟨e⟩⟩
      · obtain rfl : v = S 0 1 := by omega
        have e := ih hl (some (.int (nI (ct (pO S x q i) (S 0 1))))) (some (.int (nI 1))) o8 o9
        rw [fw_B ⟨Or.inr ‹pc i < pc (fw (PO S x q) i)›, decide_eq_true (by omega)⟩, bI16_n (by omega)] at e
        simp only [nI_add]; exact ⟨⟨e⟩⟩
      · have eb : pO S x q i v = false := by unfold pO p0; rw [‹inS i v = false›, beq_f ‹pb S v (S 4 v) (x + 1) ≠ q›]; rfl
        have e := ihv ‹_› (some (.int (nI 0))) (some (.int (nI 0)))
        rw [ct, bn_f eb] at e
        simp only [nI_add]; exact ⟨⟨e⟩⟩
      · have eb : pO S x q i v = true := by unfold pO p0; rw [‹inS i v = false›, beq_t ‹pb S v (S 4 v) (x + 1) = q›]; rfl
        have e := ihv ‹_› (some (.int (nI 0))) (some (.int (nI 1)))
        rw [ct, bn_t eb] at e
        simp only [nI_add]; exact ⟨⟨e⟩⟩
      · have eb : pO S x q i v = false := by unfold pO; rw [‹inS i v = true›, h9]; rfl
        have e := ihv ‹_› (some (.int (nI 1))) (some (.int (sm_b (cb S x q v 4))))
        rw [ct, bn_f eb] at e
        simp only [nI_add]; exact ⟨⟨e⟩⟩
      · have eb : pO S x q i v = true := by unfold pO; rw [‹inS i v = true›, h9]; rfl
        have e := ihv ‹_› (some (.int (nI 1))) (some (.int (sm_b (cb S x q v 4))))
        rw [ct, bn_t eb] at e
        simp only [nI_add]; exact ⟨⟨e⟩⟩
    refine sm_body [6, 23] 60 sm_k128 (fun CT K hC hK => ?_)
    repeat' first
      | (with_reducible refine And.intro ?_ ?_)
      | ((with_reducible intro h9); first | exact absurd h9 (by decide) | ((rw [e2, es] at h9; replace h9 := zle (by omega) (by omega) h9)) | ((rw [e2, es] at h9; replace h9 := znle (by omega) (by omega) h9)) | (rw [bI16_m hb16] at h9) | skip)
      | (with_reducible exact zn_in (by omega) (by decide))
      | (with_reducible exact z01) | (with_reducible exact z11) | (with_reducible exact zb01 _)
      | (with_reducible exact zn_inb (by omega) (by decide))
      | (with_reducible exact zn_ina (by omega) (by decide))
      | (with_reducible exact zn_inc (by omega) (by decide))
      | ((conv => whnf); first | (with_reducible refine And.intro ?_ ?_) | ((with_reducible intro h9); first | exact absurd h9 (by decide) | ((rw [e2, es] at h9; replace h9 := zle (by omega) (by omega) h9)) | ((rw [e2, es] at h9; replace h9 := znle (by omega) (by omega) h9)) | (rw [bI16_m hb16] at h9) | skip) | (with_reducible refine hK _ _ _ _ (sm_un ?_)) | (rw [bI16_n (by omega)]; refine s_size (hC.mono (by omega)) (by omega) ?_))
    · obtain rfl : i = 2 ^ S 0 1 := by omega
      unfold oilR soR at hQ
      rw [if_pos h9] at hQ
      refine zq ?_ hQ
      exact (bI16_m hb16).mpr h9
    · obtain rfl : i = 2 ^ S 0 1 := by omega
      unfold oilR soR at hQ
      rw [if_neg ‹¬ fw (PO S x q) _ = 16›, if_neg (zneq ‹¬ nI j = nI 1›)] at hQ
      exact hQ
    · obtain rfl : i = 2 ^ S 0 1 := by omega
      unfold oilR soR at hQ
      rw [if_neg ‹¬ fw (PO S x q) _ = 16›, if_pos (zeq (by omega) (by omega) ‹nI j = nI 1›)] at hQ
      refine zq ?_ hQ
      exact bI16_n (by omega)
    · exact ⟨⟨inner ‹_› 0 (Nat.zero_le _) _ _⟩⟩
  refine sm_body [6] 40 sm_k128 (fun CT K hC hK => ?_)
  repeat' first
    | (with_reducible refine And.intro ?_ ?_)
    | ((with_reducible intro h9); first | exact absurd h9 (by decide) | skip)
    | (with_reducible exact zn_in (by omega) (by decide))
    | (with_reducible exact z01) | (with_reducible exact z11) | (with_reducible exact zb01 _)
    | (with_reducible exact zn_inb (by omega) (by decide))
    | (with_reducible exact zn_ina (by omega) (by decide))
    | (with_reducible exact zn_inc (by omega) (by decide))
    | ((conv => whnf); first | (with_reducible refine And.intro ?_ ?_) | ((with_reducible intro h9); first | exact absurd h9 (by decide) | skip) | (with_reducible refine hK _ _ _ _ (sm_un ?_)))
  exact ⟨⟨lo 0 (Nat.zero_le _) _ _ _ _⟩⟩
end OIL
end
section
section OIL
variable {CT : sm_CT} {G : Nat → Nat → Int32} {L : Nat → Nat → Int64} {Q : sm_Q} {S : Nat → Nat → Nat} {h : sm_H}
theorem ct_ext {P : Nat → Bool} {n m : Nat} (h : n ≤ m) (hP : ∀ v, n ≤ v → v < m → P v = false) : ct P m = ct P n := by
  induction m with
  | zero => rw [show n = 0 by omega]
  | succ m ih =>
    by_cases e : n = m + 1
    · rw [e]
    · rw [ct, hP m (by omega) (by omega)]
      exact ih (by omega) (fun v h1 h2 => hP v h1 (by omega))
def th (a o s : Nat) : Nat := (a &&& (15 - s)) ||| (o &&& s)
theorem inS_tb (x v : Nat) : inS x v = x.testBit v := by
  rw [Nat.testBit_eq_decide_div_mod_eq, inS]
  by_cases h : x / 2 ^ v % 2 = 1
  · rw [beq_t h, decide_eq_true h]
  · rw [beq_f h, decide_eq_false h]
theorem th_1 : ∀ s, s < 16 → nI s ^^^ -1 = nI (4294967295 - s) := by decide +kernel
theorem th_2 : ∀ s, s < 16 → ∀ a, a < 16 → a &&& (4294967295 - s) = a &&& (15 - s) := by decide +kernel
theorem th_3 : ∀ s, s < 16 → ∀ v, v < 4 → (15 - s).testBit v = !s.testBit v := by decide +kernel
theorem th_i (a : Nat) (ha : a < 16) (o : Nat) (ho : o < 16) (s : Nat) (hs : s < 16) : (nI a &&& (nI s ^^^ -1)) ||| (nI o &&& nI s) = nI (th a o s) ∧ pc (th a o s) = ct (fun v => cond (inS s v) (inS o v) (inS a v)) 4 ∧ th a o s < 16 := by
  have hl : th a o s < 16 := by
    have h1 : a &&& (15 - s) < 2 ^ 4 := Nat.and_lt_two_pow _ (by omega)
    have h2 : o &&& s < 2 ^ 4 := Nat.and_lt_two_pow _ (by omega)
    exact Nat.or_lt_two_pow h1 h2
  refine ⟨?_, ?_, hl⟩
  · rw [th_1 s hs, zn_and, zn_and, zn_or, th_2 s hs a ha]
    rfl
  · rw [pc_16 _ hl]
    apply ct_congr
    intro v hv
    simp only [inS_tb, th, Nat.testBit_or, Nat.testBit_and, th_3 s hs v hv]
    cases s.testBit v <;> cases o.testBit v <;> cases a.testBit v <;> rfl
theorem bq_or2 {c : Nat → Nat} (n : Nat) (b : Bool) : (bq n c + bn b * 2 ^ n) ||| 2 ^ n = bq n c + 2 ^ n := by
  cases b with
  | false => rw [bn_f rfl, Nat.zero_mul, Nat.add_zero]; exact bq_or n
  | true => rw [bn_t rfl, Nat.one_mul, ← bq_or, Nat.or_assoc, Nat.or_self]
theorem bq_bn {f : Nat → Bool} {n : Nat} : bq (n + 1) (fun v => bn (f v)) = bq n (fun v => bn (f v)) + bn (f n) * 2 ^ n := by
  rw [bq]
  cases h : f n <;> simp [bn]
theorem inS_bq {f : Nat → Bool} {n v : Nat} : inS (bq n (fun v => bn (f v))) v = (decide (v < n) && f v) := by
  unfold inS
  rw [bq_bit]
  by_cases h : v < n
  · rw [decide_eq_true h]
    cases f v <;> rfl
  · rw [decide_eq_false h]
    rfl
set_option maxRecDepth 100000 in
set_option maxHeartbeats 4000000 in
theorem s_fewestToOil (hC : sm_C 5 CT) (hD : cD S G) (hR : dR S) {x q : Nat} (hx : x < S 0 0) (hq : q < 4) (hk : ∀ i, i < x + 1 → S 1 i < 4) (hQ : Q (some (.int (bI16 (fw (PO S x q) (2 ^ S 0 1))))) (hp G L)) : CT 70 [.ref 0, .int (nI x), .int (nI q)] (hp G L) Q := by
  obtain ⟨e1, e2, e3, e4⟩ := id hD
  obtain ⟨r1, r2, r3, r4⟩ := id hR
  have hp2 := pow_vn r2
  have es : sm_shl (nI 1) (nI (S 0 1)) = nI (2 ^ S 0 1) := by rw [zn_shl (by omega), Nat.one_mul]
  have ha := bq_lt (c := fun v => bn (p0 S x q v)) (S 0 1)
  have ho := bq_lt (c := fun v => bn (cb S x q v 4)) (S 0 1)
  refine sm_meth hC [some (.ref 0), some (.int (nI x)), some (.int (nI q)), none, none, none, none, none] rfl rfl rfl ?_
  have lo3 : ∀ i, i ≤ 2 ^ S 0 1 → ∀ o7, sm_Wk 4 70 Q none 100 [some (.ref 0), some (.int (nI x)), some (.int (nI q)), some (.int (nI (bq (S 0 1) (fun v => bn (p0 S x q v))))), some (.int (nI (bq (S 0 1) (fun v => bn (cb S x q v 4))))), some (.int (bI16 (fw (PO S x q) i))), some (.int (nI i)), o7] [] (hp G L) := by
    refine up _ (fun i hi ih o7 => ?_)
    have hfw := fw_lt (P := PO S x q) i
    have hb16 : fw (PO S x q) i ≤ 16 := by omega
    have hth := fun hl : i < 16 => th_i _ (Nat.lt_of_lt_of_le ha hp2) _ (Nat.lt_of_lt_of_le ho hp2) i hl
    have hcp : i < 16 → ct (fun v => cond (inS i v) (inS (bq (S 0 1) (fun v => bn (cb S x q v 4))) v) (inS (bq (S 0 1) (fun v => bn (p0 S x q v))) v)) 4 = ct (pO S x q i) (S 0 1) := by
      intro hl
      rw [ct_ext (n := S 0 1) (m := 4) r2 (fun v h1 h2 => by rw [inS_bq, inS_bq, decide_eq_false (by omega)]; cases inS i v <;> rfl)]
      exact ct_congr (fun v hv => by rw [inS_bq, inS_bq, decide_eq_true hv]; rfl)
    refine sm_body [100] 80 sm_k70 (fun CT K hC hK => ?_)
    have hpc : i < 16 → pc (th (bq (S 0 1) (fun v => bn (p0 S x q v))) (bq (S 0 1) (fun v => bn (cb S x q v 4))) i) < 100 := fun hl => by have := pc_le _ (hth hl).2.2; omega
    repeat' first
      | (with_reducible refine And.intro ?_ ?_)
      | ((with_reducible intro h9); first | exact absurd h9 (by decide) | ((rw [e2, es] at h9; replace h9 := zle (by omega) (by omega) h9)) | ((rw [e2, es] at h9; replace h9 := znle (by omega) (by omega) h9)) | (replace h9 := sb_f h9) | (replace h9 := sb_t h9) | skip)
      | (with_reducible exact zn_in (by omega) (by decide))
      | (with_reducible exact z01) | (with_reducible exact z11) | (with_reducible exact zb01 _)
      | (with_reducible exact zn_inb (by omega) (by decide))
      | (with_reducible exact zn_ina (by omega) (by decide))
      | (with_reducible exact zn_inc (by omega) (by decide))
      | ((conv => whnf); first | (with_reducible refine And.intro ?_ ?_) | ((with_reducible intro h9); first | exact absurd h9 (by decide) | ((rw [e2, es] at h9; replace h9 := zle (by omega) (by omega) h9)) | ((rw [e2, es] at h9; replace h9 := znle (by omega) (by omega) h9)) | (replace h9 := sb_f h9) | (replace h9 := sb_t h9) | skip) | (with_reducible refine hK _ _ _ _ (sm_un ?_)) | (with_reducible refine s_isFewer (hC.mono (by omega)) (by omega) hb16 ?_) | (rw [(hth (by omega)).1]; refine s_bitCount (hC.mono (by omega)) (by have := (hth (by omega)).2.2; omega) ?_) | (with_reducible refine s_isMoreThanHalf (hC.mono (by omega)) e2 r2 (hpc (by omega)) ?_))
    · obtain rfl : i = 2 ^ S 0 1 := by omega
      exact hQ
    · have hz := of_decide_eq_false h9
      have e := ih ‹_› (some (.int (nI (th (bq (S 0 1) (fun v => bn (p0 S x q v))) (bq (S 0 1) (fun v => bn (cb S x q v 4))) i))))
      rw [fw_A (fun z => hz z.1)] at e
      simp only [nI_add, (hth (show i < 16 by omega)).1]
      exact ⟨⟨e⟩⟩
    · have e := ih ‹_› (some (.int (nI (th (bq (S 0 1) (fun v => bn (p0 S x q v))) (bq (S 0 1) (fun v => bn (cb S x q v 4))) i))))
      rw [(hth (by omega)).2.1, hcp (by omega)] at h9
      rw [fw_A (fun z => by have hP : PO S x q i = false := h9; rw [hP] at z; exact absurd z.2 (by decide))] at e
      simp only [nI_add]; exact ⟨⟨e⟩⟩
    · have e := ih ‹_› (some (.int (nI (th (bq (S 0 1) (fun v => bn (p0 S x q v))) (bq (S 0 1) (fun v => bn (cb S x q v 4))) i))))
      rw [(hth (by omega)).2.1, hcp (by omega)] at h9
      have hP : PO S x q i = true := h9
      rw [fw_B ⟨of_decide_eq_true ‹decide (fw (PO S x q) i = 16 ∨ pc i < pc (fw (PO S x q) i)) = true›, hP⟩, bI16_n (by omega)] at e
      simp only [nI_add]; exact ⟨⟨e⟩⟩
  have lo : ∀ v, v ≤ S 0 1 → ∀ o6, sm_Wk 4 70 Q none 8 [some (.ref 0), some (.int (nI x)), some (.int (nI q)), some (.int (nI (bq v (fun v => bn (p0 S x q v))))), some (.int (nI (bq v (fun v => bn (cb S x q v 4))))), some (.int (nI v)), o6, none] [] (hp G L) := by
    refine up _ (fun v hv ih o6 => ?_)
    have inner : v < S 0 1 → ∀ t, t ≤ 4 → sm_Wk 4 70 Q none 23 [some (.ref 0), some (.int (nI x)), some (.int (nI q)), some (.int (nI (bq v (fun v => bn (p0 S x q v)) + bn (decide (S 4 v < t) && p0 S x q v) * 2 ^ v))), some (.int (nI (bq v (fun v => bn (cb S x q v 4)) + bn (cb S x q v t) * 2 ^ v))), some (.int (nI v)), some (.int (nI t)), none] [] (hp G L) := by
      intro hl
      refine up _ (fun t ht iht => ?_)
      have hp4 : pb S v t (x + 1) < 4 := pb_lt (r4 v hl).2.1 (x + 1) hk
      have h4 := r4 v hl
      refine sm_body [8, 23] 80 sm_k70 (fun CT K hC hK => ?_)
      repeat' first
        | (with_reducible refine And.intro ?_ ?_)
        | ((with_reducible intro h9); first | exact absurd h9 (by decide) | (replace h9 := zle (by omega) (by omega) h9) | (replace h9 := znle (by omega) (by omega) h9) | ((rw [zn_clI (show v < 2 ^ 31 by omega), (e4 v hl).2.2] at h9; replace h9 := zneq h9)) | ((rw [zn_clI (show v < 2 ^ 31 by omega), (e4 v hl).2.2] at h9; replace h9 := zeq (by omega) (by omega) h9)) | (replace h9 := zneq h9) | (replace h9 := zeq (by omega) (by omega) h9) | skip)
        | (with_reducible exact zn_in (by omega) (by decide))
        | (with_reducible exact z01) | (with_reducible exact z11) | (with_reducible exact zb01 _)
        | (with_reducible exact zn_inb (by omega) (by decide))
        | (with_reducible exact zn_ina (by omega) (by decide))
        | (with_reducible exact zn_inc (by omega) (by decide))
        | ((conv => whnf); first | (with_reducible refine And.intro ?_ ?_) | ((with_reducible intro h9); first | exact absurd h9 (by decide) | (replace h9 := zle (by omega) (by omega) h9) | (replace h9 := znle (by omega) (by omega) h9) | ((rw [zn_clI (show v < 2 ^ 31 by omega), (e4 v hl).2.2] at h9; replace h9 := zneq h9)) | ((rw [zn_clI (show v < 2 ^ 31 by omega), (e4 v hl).2.2] at h9; replace h9 := zeq (by omega) (by omega) h9)) | (replace h9 := zneq h9) | (replace h9 := zeq (by omega) (by omega) h9) | skip) | (with_reducible refine hK _ _ _ _ (sm_un ?_)) | (with_reducible refine s_pointWith (hC.mono (by omega)) hD hR hl ‹_› hx hk ?_))
      · obtain rfl : t = 4 := by omega
        have e := ih hl (some (.int (nI 4)))
        rw [bq_bn, bq_bn] at e
        have e4 : (decide (S 4 v < 4) && p0 S x q v) = p0 S x q v := by rw [decide_eq_true (by omega)]; rfl
        simp only [e4, nI_add]
        exact ⟨⟨e⟩⟩
      · have e := iht ‹_›
        have ec : cb S x q v (t + 1) = true := by rw [cb, beq_f ‹t ≠ S 4 v›, beq_t ‹pb S v t (x + 1) = q›, Bool.or_eq_true]; exact Or.inr rfl
        have ed : decide (S 4 v < t + 1) = decide (S 4 v < t) := by congr 1; apply propext; omega
        rw [ec, ed] at e
        have eo : (bq v (fun v => bn (cb S x q v 4)) + bn (cb S x q v t) * 2 ^ v) ||| 1 * 2 ^ v = bq v (fun v => bn (cb S x q v 4)) + bn true * 2 ^ v := by rw [Nat.one_mul, bq_or2, bn_t rfl, Nat.one_mul]
        simp only [nI_add, zn_shl (show v < 32 by omega), zn_or, eo]
        exact ⟨⟨e⟩⟩
      · have e := iht ‹_›
        have ec : cb S x q v (t + 1) = cb S x q v t := by rw [cb, beq_t ‹t = S 4 v›]; simp
        have ep : p0 S x q v = true := by unfold p0; rw [← ‹t = S 4 v›]; exact beq_t ‹_›
        have ed : (decide (S 4 v < t + 1) && p0 S x q v) = true := by rw [decide_eq_true (by omega), ep]; rfl
        rw [ec, ed] at e
        have eo : (bq v (fun v => bn (p0 S x q v)) + bn (decide (S 4 v < t) && p0 S x q v) * 2 ^ v) ||| 1 * 2 ^ v = bq v (fun v => bn (p0 S x q v)) + bn true * 2 ^ v := by rw [Nat.one_mul, bq_or2, bn_t rfl, Nat.one_mul]
        simp only [nI_add, zn_shl (show v < 32 by omega), zn_or, eo]
        exact ⟨⟨e⟩⟩
      · have e := iht ‹_›
        have ec : cb S x q v (t + 1) = cb S x q v t := by rw [cb, beq_f ‹pb S v t (x + 1) ≠ q›]; simp
        have ed : (decide (S 4 v < t + 1) && p0 S x q v) = (decide (S 4 v < t) && p0 S x q v) := by
          by_cases ht4 : t = S 4 v
          · have ep : p0 S x q v = false := by unfold p0; rw [← ht4]; exact beq_f ‹_›
            rw [ep, Bool.and_false, Bool.and_false]
          · congr 2
            apply propext
            omega
        rw [ec, ed] at e
        simp only [nI_add]; exact ⟨⟨e⟩⟩
    refine sm_body [8, 23, 100] 80 sm_k70 (fun CT K hC hK => ?_)
    repeat' first
      | (with_reducible refine And.intro ?_ ?_)
      | ((with_reducible intro h9); first | exact absurd h9 (by decide) | (replace h9 := nle e2 (by omega) (by omega) h9) | (replace h9 := yle e2 (by omega) (by omega) h9) | skip)
      | (with_reducible exact zn_in (by omega) (by decide))
      | (with_reducible exact z01) | (with_reducible exact z11) | (with_reducible exact zb01 _)
      | (with_reducible exact zn_inb (by omega) (by decide))
      | (with_reducible exact zn_ina (by omega) (by decide))
      | (with_reducible exact zn_inc (by omega) (by decide))
      | ((conv => whnf); first | (with_reducible refine And.intro ?_ ?_) | ((with_reducible intro h9); first | exact absurd h9 (by decide) | (replace h9 := nle e2 (by omega) (by omega) h9) | (replace h9 := yle e2 (by omega) (by omega) h9) | skip) | (with_reducible refine hK _ _ _ _ (sm_un ?_)))
    · obtain rfl : v = S 0 1 := by omega
      exact ⟨⟨lo3 0 (Nat.zero_le _) none⟩⟩
    · have e := inner h9 0 (Nat.zero_le _)
      rw [show (decide (S 4 v < 0) && p0 S x q v) = false by rw [decide_eq_false (by omega)]; rfl, show cb S x q v 0 = false from rfl, show bn false * 2 ^ v = 0 by rw [bn_f rfl, Nat.zero_mul], Nat.add_zero, Nat.add_zero] at e
      exact ⟨⟨e⟩⟩
  refine sm_body [8] 40 sm_k70 (fun CT K hC hK => ?_)
  repeat' first
    | (with_reducible refine And.intro ?_ ?_)
    | ((with_reducible intro h9); first | exact absurd h9 (by decide) | skip)
    | (with_reducible exact zn_in (by omega) (by decide))
    | (with_reducible exact z01) | (with_reducible exact z11) | (with_reducible exact zb01 _)
    | (with_reducible exact zn_inb (by omega) (by decide))
    | (with_reducible exact zn_ina (by omega) (by decide))
    | (with_reducible exact zn_inc (by omega) (by decide))
    | ((conv => whnf); first | (with_reducible refine And.intro ?_ ?_) | ((with_reducible intro h9); first | exact absurd h9 (by decide) | skip) | (with_reducible refine hK _ _ _ _ (sm_un ?_)))
  exact ⟨⟨lo 0 (Nat.zero_le _) _⟩⟩
end OIL
end
section
/-! What must hold between two calls. -/
/-- the state that restore() makes -/
def kS (S : Nat → Nat → Nat) : Nat → Nat → Nat := fun p => match p with
  | 0 => su (su (S 0) 1 (S 0 7)) 2 (S 0 8)
  | 1 => S 9
  | 4 => S 10
  | 6 => S 11
  | 7 => S 12
  | 8 => S 13
  | _ => S p
/-- how much is seen of a vane -/
def so (S : Nat → Nat → Nat) (v : Nat) : Nat := ct (fun k => Nat.beq (S 6 k) v) (S 0 2)
/-- a hill's cells -/
def hF (S : Nat → Nat → Nat) (h0 h2 h6 : Int32) (W K A T O L : Nat → Int32) : Prop := h0 = nI (S 0 0) ∧ h2 = nI (S 0 1) ∧ h6 = nI (S 0 2) ∧ (∀ i, i < S 0 0 → W i = wI (S 1 i)) ∧ (∀ i, i < S 0 1 → K i = nI (S 2 i) ∧ A i = nI (S 3 i) ∧ T i = nI (S 4 i)) ∧ (∀ v, v < 4 → O v = nI (so S v)) ∧ (∀ v, v < 4 → ∀ h, h < 6 → L (v * 6 + h) = nI (lf S v h))
def hH (S : Nat → Nat → Nat) (G : Nat → Nat → Int32) : Prop := hF S (G 3 0) (G 3 2) (G 3 6) (G 4) (G 5) (G 6) (G 7) (G 8) (G 9)
def hK (S : Nat → Nat → Nat) (G : Nat → Nat → Int32) : Prop := hF S (G 10 0) (G 10 2) (G 10 6) (G 11) (G 12) (G 13) (G 14) (G 15) (G 16)
theorem hH_cD {S G : _} (h : hH S G) : cD S G := ⟨h.1, h.2.1, h.2.2.2.1, h.2.2.2.2.1⟩
theorem hH_cL {S G : _} (h : hH S G) : cL S G := h.2.2.2.2.2.2
/-- the class: its page, its counts, its tally, its image -/
def cP (S : Nat → Nat → Nat) (G : Nat → Nat → Int32) : Prop := G 1 1 = nI (S 0 3) ∧ ∀ i, i < S 0 3 → G 2 i = nI (S 5 i)
def cQ (S : Nat → Nat → Nat) (G : Nat → Nat → Int32) : Prop := G 0 5 = nI (S 0 6) ∧ G 0 6 = nI (S 0 4) ∧ G 0 7 = nI (S 0 5)
def cT (S : Nat → Nat → Nat) (G : Nat → Nat → Int32) : Prop := (G 17 4 = nI 0 ∧ tl S G) ∨ G 17 4 = nI 1
def Ic (S : Nat → Nat → Nat) (G : Nat → Nat → Int32) : Prop := hH S G ∧ cP S G ∧ cQ S G ∧ cT S G ∧ (S 0 6 = 1 → hK (kS S) G)
/-- the other one: its page, its counts, its image, its table -/
def mP (S : Nat → Nat → Nat) (G : Nat → Nat → Int32) : Prop := G 30 12 = nI (S 0 3) ∧ ∀ i, i < S 0 3 → G 38 i = nI (S 5 i)
def mQ (S : Nat → Nat → Nat) (G : Nat → Nat → Int32) : Prop := G 30 0 = nI (S 0 4) ∧ G 30 11 = nI (S 0 5)
def mK (S : Nat → Nat → Nat) (G : Nat → Nat → Int32) : Prop := ∃ b d, b ≤ 1 ∧ d ≤ S 0 4 ∧ G 30 22 = nI b ∧ G 30 23 = nI d ∧ (S 0 6 = 1 ↔ (b = 1 ∧ d = S 0 4)) ∧ (S 0 6 = 1 → G 30 24 = nI (S 0 7) ∧ G 30 25 = nI (S 0 8) ∧ (∀ i, i < S 0 0 → G 45 i = wI (S 9 i)) ∧ (∀ i, i < S 0 7 → G 46 i = nI (S 10 i)) ∧ (∀ k, k < S 0 8 → G 47 k = nI (S 11 k) ∧ G 48 k = nI (S 12 k) ∧ G 49 k = nI (S 13 k)))
/-- the table: its round, no later one noted -/
def mH (c : Nat) (G : Nat → Nat → Int32) : Prop := ∃ r, r ≤ c ∧ G 30 20 = nI r ∧ ∀ i, i < 8192 → ∃ x, x ≤ r ∧ G 44 i = nI x
def Im (c : Nat) (S : Nat → Nat → Nat) (G : Nat → Nat → Int32) : Prop := mD S G ∧ mS S G ∧ mP S G ∧ mQ S G ∧ mK S G ∧ mH c G ∧ pA G
def RS (c : Nat) (S : Nat → Nat → Nat) : Prop := dR S ∧ nR S ∧ S 0 3 ≤ 8 ∧ (∀ i, i < S 0 3 → 32 ≤ S 5 i ∧ S 5 i ≤ 126) ∧ S 0 4 ≤ c ∧ S 0 5 ≤ 30 ∧ S 0 6 ≤ 1 ∧ (S 0 0 = 0 → S 0 1 = 0) ∧ (S 0 6 = 1 → S 0 0 ≠ 0 ∧ S 0 7 ≤ S 0 1 ∧ dR (kS S) ∧ nR (kS S))
def clsP : List Nat := [0, 1, 2, 3, 4, 5, 6, 7, 8, 9, 10, 11, 12, 13, 14, 15, 16, 17, 18, 19, 20, 21, 22, 23, 24, 25, 26, 27, 28, 29]
def mdlP : List Nat := [30, 31, 32, 33, 34, 35, 36, 37, 38, 39, 40, 41, 42, 43, 44, 45, 46, 47, 48, 49]
theorem Im_x {c S G G' : _} (hx : eqx clsP G G') (h : Im c S G) : Im c S G' := by
  unfold Im mD mS mP mQ mK mH pA at *
  simp only [hx 30 rfl, hx 31 rfl, hx 32 rfl, hx 33 rfl, hx 34 rfl, hx 35 rfl, hx 36 rfl, hx 37 rfl, hx 38 rfl, hx 40 rfl, hx 44 rfl, hx 45 rfl, hx 46 rfl, hx 47 rfl, hx 48 rfl, hx 49 rfl]
  exact h
theorem Im_39 {c S G G' : _} (hx : eqx [39, 40, 41] G G') (hp : pA G') (h : Im c S G) : Im c S G' := by
  unfold Im mD mS mP mQ mK mH at *
  simp only [hx 30 rfl, hx 31 rfl, hx 32 rfl, hx 33 rfl, hx 34 rfl, hx 35 rfl, hx 36 rfl, hx 37 rfl, hx 38 rfl, hx 44 rfl, hx 45 rfl, hx 46 rfl, hx 47 rfl, hx 48 rfl, hx 49 rfl]
  exact ⟨h.1, h.2.1, h.2.2.1, h.2.2.2.1, h.2.2.2.2.1, h.2.2.2.2.2.1, hp⟩
theorem Ic_x {S G G' : _} (hx : eqx mdlP G G') (h : Ic S G) : Ic S G' := by
  unfold Ic hH hK cP cQ cT tl at *
  simp only [hx 0 rfl, hx 1 rfl, hx 2 rfl, hx 3 rfl, hx 4 rfl, hx 5 rfl, hx 6 rfl, hx 7 rfl, hx 8 rfl, hx 9 rfl, hx 10 rfl, hx 11 rfl, hx 12 rfl, hx 13 rfl, hx 14 rfl, hx 15 rfl, hx 16 rfl, hx 17 rfl, hx 18 rfl, hx 19 rfl]
  exact h
-- the tally, read
theorem tl_pt {S G : _} (hN : nR S) (h : tl S G) {v h' q : Nat} (hv : v < S 0 1) (h4 : S 0 1 ≤ 4) (hh : h' < S 0 0) (h6 : S 0 0 ≤ 6) (hq : q < 4) : G 18 ((v * 6 + h') * 4 + q) = nI (aPt S v h' q) := by
  rw [h.2.1 _ (by omega), wx_pt hN hv hh h6 hq]
theorem tl_bl {S G : _} (hN : nR S) (h : tl S G) {h' q : Nat} (hh : h' < S 0 0) (h6 : S 0 0 ≤ 6) (hq : q < 4) : G 19 (h' * 4 + q) = nI (aBl S h' q) := by
  rw [h.2.2 _ (by omega), wy_bl hN hh hq]
theorem tl_all {S G : _} (hN : nR S) (h : tl S G) : G 17 3 = nI (aAll S) := by
  rw [h.1, wk_all hN]
section FACE1
variable {CT : sm_CT} {G : Nat → Nat → Int32} {L : Nat → Nat → Int64} {Q : sm_Q} {S : Nat → Nat → Nat} {c : Nat}
/-- the tally made anew -/
theorem f_refresh (hC : sm_C 12 CT) (hR : RS c S) (hI : Ic S G) (hQ : ∀ G', eqx [17, 18, 19] G G' → Ic S G' → tl S G' → Q none (hp G' L)) : CT 27 [.ref 17] (hp G L) Q := by
  obtain ⟨i1, i2, i3, i4, i5⟩ := hI
  refine s_refresh hC (hH_cD i1) hR.1 (hH_cL i1) (fun h => ?_) (fun G' hx ht h0 => ?_)
  · rcases i4 with h4 | h4
    · exact h4.2
    · rw [h4] at h; exact absurd h (by decide)
  · refine hQ G' hx ⟨?_, ?_, ?_, Or.inl ⟨h0, ht⟩, ?_⟩ ht
    · unfold hH; rw [hx 3 rfl, hx 4 rfl, hx 5 rfl, hx 6 rfl, hx 7 rfl, hx 8 rfl, hx 9 rfl]; exact i1
    · unfold cP; rw [hx 1 rfl, hx 2 rfl]; exact i2
    · unfold cQ; rw [hx 0 rfl]; exact i3
    · unfold hK; rw [hx 10 rfl, hx 11 rfl, hx 12 rfl, hx 13 rfl, hx 14 rfl, hx 15 rfl, hx 16 rfl]; exact i5
-- fitting
def A_fitting (S : Nat → Nat → Nat) : Int32 := if S 0 0 = 0 then -103 else nI (aAll S)
set_option maxRecDepth 100000 in
set_option maxHeartbeats 4000000 in
theorem f_fitting (hC : sm_C 13 CT) (hR : RS c S) (hI : Ic S G) (hQ : ∀ G', eqx clsP G G' → Ic S G' → Q (some (.int (A_fitting S))) (hp G' L)) : CT 53 [.ref 0] (hp G L) Q := by
  have r6 := hR.1.1
  have e1 := hI.1.1
  refine sm_meth hC [some (.ref 0)] rfl rfl rfl ?_
  refine sm_body [] 60 sm_k53 (fun CT K hC hK => ?_)
  unfold A_fitting at hQ
  repeat' first
    | (with_reducible refine And.intro ?_ ?_)
    | ((with_reducible intro h9); first | exact absurd h9 (by decide) | ((rw [e1] at h9; replace h9 := zneq h9)) | ((rw [e1] at h9; replace h9 := zeq (by omega) (by omega) h9)) | skip)
    | (with_reducible exact zn_in (by omega) (by decide))
    | (with_reducible exact z01) | (with_reducible exact z11) | (with_reducible exact zb01 _)
    | (with_reducible exact zn_inb (by omega) (by decide))
    | (with_reducible exact zn_ina (by omega) (by decide))
    | (with_reducible exact zn_inc (by omega) (by decide))
    | ((conv => whnf); first | (with_reducible refine And.intro ?_ ?_) | ((with_reducible intro h9); first | exact absurd h9 (by decide) | ((rw [e1] at h9; replace h9 := zneq h9)) | ((rw [e1] at h9; replace h9 := zeq (by omega) (by omega) h9)) | skip) | (with_reducible refine hK _ _ _ _ (sm_un ?_)) | (with_reducible refine f_refresh (hC.mono (by omega)) hR hI (fun G' hx hI' ht => ?_)))
  · refine zq ?_ (hQ G' (eqx_sub rfl hx) hI')
    rw [tl_all hR.2.1 ht]
    split
    · exact absurd ‹_› h9
    · rfl
  · refine zq ?_ (hQ G eqx_rfl hI)
    split
    · rfl
    · exact absurd h9 ‹_›
set_option maxRecDepth 100000 in
set_option maxHeartbeats 4000000 in
theorem g_fitting (hC : sm_C 7 CT) (hR : RS c S) (hI : Im c S G) (hQ : ∀ G', eqx mdlP G G' → Im c S G' → Q (some (.int (A_fitting S))) (hp G' L)) : CT 107 [.ref 30] (hp G L) Q := by
  obtain ⟨i1, i2, i3, i4, i5, i6, i7⟩ := id hI
  obtain ⟨hdR, hnR, -⟩ := id hR
  have r6 := hR.1.1
  have e1 := i1.1
  refine sm_meth hC [some (.ref 30)] rfl rfl rfl ?_
  refine sm_body [] 60 sm_k107 (fun CT K hC hK => ?_)
  unfold A_fitting at hQ
  repeat' first
    | (with_reducible refine And.intro ?_ ?_)
    | ((with_reducible intro h9); first | exact absurd h9 (by decide) | ((rw [e1] at h9; replace h9 := zneq h9)) | ((rw [e1] at h9; replace h9 := zeq (by omega) (by omega) h9)) | skip)
    | (with_reducible exact zn_in (by omega) (by decide))
    | (with_reducible exact z01) | (with_reducible exact z11) | (with_reducible exact zb01 _)
    | (with_reducible exact zn_inb (by omega) (by decide))
    | (with_reducible exact zn_ina (by omega) (by decide))
    | (with_reducible exact zn_inc (by omega) (by decide))
    | ((conv => whnf); first | (with_reducible refine And.intro ?_ ?_) | ((with_reducible intro h9); first | exact absurd h9 (by decide) | ((rw [e1] at h9; replace h9 := zneq h9)) | ((rw [e1] at h9; replace h9 := zeq (by omega) (by omega) h9)) | skip) | (with_reducible refine hK _ _ _ _ (sm_un ?_)) | (with_reducible refine s_fittingNow (hC.mono (by omega)) i1 hdR i2 hnR (fun G' hx hp => ?_)))
  · refine zq ?_ (hQ G' (eqx_sub rfl hx) (Im_39 (eqx_sub rfl hx) (hp i7) hI))
    split
    · exact absurd ‹_› h9
    · rfl
  · refine zq ?_ (hQ G eqx_rfl hI)
    split
    · rfl
    · exact absurd h9 ‹_›
end FACE1
end
section
/-! Points, blows, about, as, oiling: both sides. -/
theorem inb_ex {x : Int32} {n : Nat} (h : inb x n = true) : ∃ j, j < n ∧ x = nI j := by
  simp only [inb, Bool.and_eq_true, decide_eq_true_eq] at h
  have hl := Int32.toInt_lt x
  refine ⟨x.toInt.toNat, by omega, ?_⟩
  rw [zn_eq, nI_toInt (by omega)]
  omega
theorem cq_t {α : Type} {b : Bool} {x y z : α} (h : b = true) (e : z = x) : z = cond b x y := by subst h; exact e
theorem cq_f {α : Type} {b : Bool} {x y z : α} (h : b = false) (e : z = y) : z = cond b x y := by subst h; exact e
theorem iq_t {α : Type} {p : Prop} [Decidable p] {x y z : α} (h : p) (e : z = x) : z = if p then x else y := by
  split
  · exact e
  · exact absurd h ‹_›
theorem iq_f {α : Type} {p : Prop} [Decidable p] {x y z : α} (h : ¬ p) (e : z = y) : z = if p then x else y := by
  split
  · exact absurd ‹_› h
  · exact e
theorem cnt31 {S : Nat → Nat → Nat} (hR : dR S) (P : (Nat → Nat) → Bool) : cnt S P < 2 ^ 31 := by
  have := cnt_le hR P
  omega
theorem aPt31 {S : Nat → Nat → Nat} (hR : dR S) (v h q : Nat) : aPt S v h q < 2 ^ 31 := cnt31 hR _
theorem aBl31 {S : Nat → Nat → Nat} (hR : dR S) (h q : Nat) : aBl S h q < 2 ^ 31 := cnt31 hR _
theorem aAll31 {S : Nat → Nat → Nat} (hR : dR S) : aAll S < 2 ^ 31 := cnt31 hR _
section FACE2
variable {CT : sm_CT} {G : Nat → Nat → Int32} {L : Nat → Nat → Int64} {Q : sm_Q} {S : Nat → Nat → Nat} {c : Nat} {h : sm_H}
theorem b_hasHour (hC : sm_C 1 CT) {n : Nat} (e : G 3 0 = nI n) (hn : n ≤ 6) {x : Int32} (hQ : Q (some (.int (sm_b (inb x n)))) (hp G L)) : CT 1 [.ref 3, .int x] (hp G L) Q :=
  s_hasHour hC e hn (fun j hj ex => zq (b_t (by rw [ex]; exact inb_n hj (by omega))) hQ) (fun h0 => zq (b_f h0) hQ)
theorem b_hasVane (hC : sm_C 1 CT) {n : Nat} (e : G 3 2 = nI n) (hn : n ≤ 4) {x : Int32} (hQ : Q (some (.int (sm_b (inb x n)))) (hp G L)) : CT 2 [.ref 3, .int x] (hp G L) Q :=
  s_hasVane hC e hn (fun j hj ex => zq (b_t (by rw [ex]; exact inb_n hj (by omega))) hQ) (fun h0 => zq (b_f h0) hQ)
theorem b_isHour (hC : sm_C 2 CT) {n : Nat} (e : G 30 1 = nI n) (hn : n ≤ 6) {x : Int32} (hQ : Q (some (.int (sm_b (inb x n)))) (hp G L)) : CT 88 [.ref 30, .int x] (hp G L) Q :=
  s_isHour hC e hn (fun j hj ex => zq (b_t (by rw [ex]; exact inb_n hj (by omega))) hQ) (fun h0 => zq (b_f h0) hQ)
theorem b_isVane (hC : sm_C 2 CT) {n : Nat} (e : G 30 3 = nI n) (hn : n ≤ 4) {x : Int32} (hQ : Q (some (.int (sm_b (inb x n)))) (hp G L)) : CT 89 [.ref 30, .int x] (hp G L) Q :=
  s_isVane hC e hn (fun j hj ex => zq (b_t (by rw [ex]; exact inb_n hj (by omega))) hQ) (fun h0 => zq (b_f h0) hQ)
theorem b_isQuarter (hC : sm_C 1 CT) {x : Int32} (hQ : Q (some (.int (sm_b (inb x 4)))) h) : CT 73 [.int x] h Q :=
  s_isQuarter hC (fun j hj ex => zq (b_t (by rw [ex]; exact inb_n hj (by omega))) hQ) (fun h0 => zq (b_f h0) hQ)
theorem b_isTwist (hC : sm_C 1 CT) {x : Int32} (hQ : Q (some (.int (sm_b (inb x 4)))) h) : CT 74 [.int x] h Q :=
  s_isTwist hC (fun j hj ex => zq (b_t (by rw [ex]; exact inb_n hj (by omega))) hQ) (fun h0 => zq (b_f h0) hQ)
theorem b_isKind (hC : sm_C 1 CT) {x : Int32} (hQ : Q (some (.int (sm_b (inb x 5)))) h) : CT 75 [.int x] h Q :=
  s_isKind hC (fun j hj ex => zq (b_t (by rw [ex]; exact inb_n hj (by omega))) hQ) (fun h0 => zq (b_f h0) hQ)
theorem b_isQuarterM (hC : sm_C 2 CT) {x : Int32} (hQ : Q (some (.int (sm_b (inb x 4)))) h) : CT 80 [.int x] h Q :=
  s_isQuarterM hC (fun j hj ex => zq (b_t (by rw [ex]; exact inb_n hj (by omega))) hQ) (fun h0 => zq (b_f h0) hQ)
theorem b_within (hC : sm_C 1 CT) {x y : Int32} {n : Nat} (hn : n < 2 ^ 30) (hy : y.toInt = (n : Int) - 1) (hQ : Q (some (.int (sm_b (inb x n)))) h) : CT 79 [.int x, .int (nI 0), .int y] h Q :=
  s_within hC (fun ha hb => by
    obtain ⟨j, hj, e⟩ := wi_t hn hy ha hb
    exact zq (b_t (by rw [e]; exact inb_n hj (by omega))) hQ) (fun hn => zq (b_f (wi_f hy hn)) hQ)
theorem b_withinM (hC : sm_C 1 CT) {x : Int32} {m n : Nat} (hm : m < 2 ^ 20) (hn : n = m + 1) (hQ : Q (some (.int (sm_b (inb x n)))) h) : CT 79 [.int x, .int (nI 0), .int (nI m)] h Q :=
  b_within hC (n := n) (by omega) (by rw [nI_toInt (by omega)]; omega) hQ
-- points
def A_points (S : Nat → Nat → Nat) (x y : Int32) : Int32 := cond (inb x (S 0 1)) (cond (inb y (S 0 0)) (nI (bq 4 (aPt S x.toNatClampNeg y.toNatClampNeg))) (-101)) (-101)
set_option maxRecDepth 100000 in
set_option maxHeartbeats 4000000 in
theorem f_points (hC : sm_C 13 CT) (hR : RS c S) (hI : Ic S G) {x y : Int32} (hQ : ∀ G', eqx clsP G G' → Ic S G' → Q (some (.int (A_points S x y))) (hp G' L)) : CT 54 [.ref 0, .int x, .int y] (hp G L) Q := by
  obtain ⟨hdR, hnR, -⟩ := id hR
  obtain ⟨r1, r2, r3, r4⟩ := id hdR
  have e1 := hI.1.1
  have e2 := hI.1.2.1
  refine sm_meth hC [some (.ref 0), some (.int x), some (.int y)] rfl rfl rfl ?_
  refine sm_body [] 60 sm_k54 (fun CT K hC hK => ?_)
  unfold A_points at hQ
  repeat' first
    | (with_reducible refine And.intro ?_ ?_)
    | ((with_reducible intro h9); first | exact absurd h9 (by decide) | (replace h9 := sb_f h9) | (obtain ⟨j, hj, rfl⟩ := inb_ex (x := x) (sb_t h9)) | (obtain ⟨k, hk, rfl⟩ := inb_ex (x := y) (sb_t h9)) | skip)
    | (with_reducible exact zn_in (by omega) (by decide))
    | (with_reducible exact z01) | (with_reducible exact z11) | (with_reducible exact zb01 _)
    | (with_reducible exact zn_inb (by omega) (by decide))
    | (with_reducible exact zn_ina (by omega) (by decide))
    | (with_reducible exact zn_inc (by omega) (by decide))
    | ((conv => whnf); first | (with_reducible refine And.intro ?_ ?_) | ((with_reducible intro h9); first | exact absurd h9 (by decide) | (replace h9 := sb_f h9) | (obtain ⟨j, hj, rfl⟩ := inb_ex (x := x) (sb_t h9)) | (obtain ⟨k, hk, rfl⟩ := inb_ex (x := y) (sb_t h9)) | skip) | (with_reducible refine hK _ _ _ _ (sm_un ?_)) | (with_reducible refine b_hasVane (hC.mono (by omega)) e2 r2 ?_) | (with_reducible refine b_hasHour (hC.mono (by omega)) e1 r1 ?_) | (with_reducible refine f_refresh (hC.mono (by omega)) hR hI (fun G' hx hI' ht => ?_)) | (with_reducible refine s_pointed (c := aPt S j k) (hC.mono (by omega)) (by omega) (by omega) (fun q _ => aPt31 hdR j k q) (fun q hq => tl_pt hnR ht hj r2 hk r1 hq) ?_))
  · exact zq (cq_f ‹inb x _ = false› rfl) (hQ G eqx_rfl hI)
  · exact zq (cq_t (inb_n hj (by omega)) (cq_t (inb_n hk (by omega)) (by rw [zn_clI (by omega), zn_clI (by omega)]))) (hQ G' (eqx_sub rfl hx) hI')
  · exact zq (cq_t (inb_n hj (by omega)) (cq_f ‹inb y _ = false› rfl)) (hQ G eqx_rfl hI)
set_option maxRecDepth 100000 in
set_option maxHeartbeats 4000000 in
theorem g_points (hC : sm_C 7 CT) (hR : RS c S) (hI : Im c S G) {x y : Int32} (hQ : ∀ G', eqx mdlP G G' → Im c S G' → Q (some (.int (A_points S x y))) (hp G' L)) : CT 109 [.ref 30, .int x, .int y] (hp G L) Q := by
  obtain ⟨i1, i2, i3, i4, i5, i6, i7⟩ := id hI
  obtain ⟨hdR, hnR, -⟩ := id hR
  obtain ⟨r1, r2, r3, r4⟩ := id hdR
  have e1 := i1.1
  have e2 := i1.2.1
  refine sm_meth hC [some (.ref 30), some (.int x), some (.int y)] rfl rfl rfl ?_
  refine sm_body [] 60 sm_k109 (fun CT K hC hK => ?_)
  unfold A_points at hQ
  repeat' first
    | (with_reducible refine And.intro ?_ ?_)
    | ((with_reducible intro h9); first | exact absurd h9 (by decide) | (replace h9 := sb_f h9) | (obtain ⟨j, hj, rfl⟩ := inb_ex (x := x) (sb_t h9)) | (obtain ⟨k, hk, rfl⟩ := inb_ex (x := y) (sb_t h9)) | skip)
    | (with_reducible exact zn_in (by omega) (by decide))
    | (with_reducible exact z01) | (with_reducible exact z11) | (with_reducible exact zb01 _)
    | (with_reducible exact zn_inb (by omega) (by decide))
    | (with_reducible exact zn_ina (by omega) (by decide))
    | (with_reducible exact zn_inc (by omega) (by decide))
    | ((conv => whnf); first | (with_reducible refine And.intro ?_ ?_) | ((with_reducible intro h9); first | exact absurd h9 (by decide) | (replace h9 := sb_f h9) | (obtain ⟨j, hj, rfl⟩ := inb_ex (x := x) (sb_t h9)) | (obtain ⟨k, hk, rfl⟩ := inb_ex (x := y) (sb_t h9)) | skip) | (with_reducible refine hK _ _ _ _ (sm_un ?_)) | (with_reducible refine b_isVane (hC.mono (by omega)) e2 r2 ?_) | (with_reducible refine b_isHour (hC.mono (by omega)) e1 r1 ?_) | (with_reducible refine s_pointsNow (hC.mono (by omega)) i1 hdR i2 hnR hj hk (fun G' hx hp => ?_)))
  · exact zq (cq_f ‹inb x _ = false› rfl) (hQ G eqx_rfl hI)
  · exact zq (cq_t (inb_n hj (by omega)) (cq_f ‹inb y _ = false› rfl)) (hQ G eqx_rfl hI)
  · exact zq (cq_t (inb_n hj (by omega)) (cq_t (inb_n hk (by omega)) (by rw [zn_clI (by omega), zn_clI (by omega)]))) (hQ G' (eqx_sub rfl hx) (Im_39 (eqx_sub rfl hx) (hp i7) hI))
-- blows
def A_blows (S : Nat → Nat → Nat) (y : Int32) : Int32 := cond (inb y (S 0 0)) (nI (bq 4 (aBl S y.toNatClampNeg))) (-101)
set_option maxRecDepth 100000 in
set_option maxHeartbeats 4000000 in
theorem f_blows (hC : sm_C 13 CT) (hR : RS c S) (hI : Ic S G) {y : Int32} (hQ : ∀ G', eqx clsP G G' → Ic S G' → Q (some (.int (A_blows S y))) (hp G' L)) : CT 55 [.ref 0, .int y] (hp G L) Q := by
  obtain ⟨hdR, hnR, -⟩ := id hR
  obtain ⟨r1, r2, r3, r4⟩ := id hdR
  have e1 := hI.1.1
  refine sm_meth hC [some (.ref 0), some (.int y)] rfl rfl rfl ?_
  refine sm_body [] 60 sm_k55 (fun CT K hC hK => ?_)
  unfold A_blows at hQ
  repeat' first
    | (with_reducible refine And.intro ?_ ?_)
    | ((with_reducible intro h9); first | exact absurd h9 (by decide) | (replace h9 := sb_f h9) | (obtain ⟨k, hk, rfl⟩ := inb_ex (x := y) (sb_t h9)) | skip)
    | (with_reducible exact zn_in (by omega) (by decide))
    | (with_reducible exact z01) | (with_reducible exact z11) | (with_reducible exact zb01 _)
    | (with_reducible exact zn_inb (by omega) (by decide))
    | (with_reducible exact zn_ina (by omega) (by decide))
    | (with_reducible exact zn_inc (by omega) (by decide))
    | ((conv => whnf); first | (with_reducible refine And.intro ?_ ?_) | ((with_reducible intro h9); first | exact absurd h9 (by decide) | (replace h9 := sb_f h9) | (obtain ⟨k, hk, rfl⟩ := inb_ex (x := y) (sb_t h9)) | skip) | (with_reducible refine hK _ _ _ _ (sm_un ?_)) | (with_reducible refine b_hasHour (hC.mono (by omega)) e1 r1 ?_) | (with_reducible refine f_refresh (hC.mono (by omega)) hR hI (fun G' hx hI' ht => ?_)) | (with_reducible refine s_blown (c := aBl S k) (hC.mono (by omega)) (by omega) (fun q _ => aBl31 hdR k q) (fun q hq => tl_bl hnR ht hk r1 hq) ?_))
  · exact zq (cq_t (inb_n hk (by omega)) (by rw [zn_clI (by omega)])) (hQ G' (eqx_sub rfl hx) hI')
  · exact zq (cq_f ‹inb y _ = false› rfl) (hQ G eqx_rfl hI)
set_option maxRecDepth 100000 in
set_option maxHeartbeats 4000000 in
theorem g_blows (hC : sm_C 7 CT) (hR : RS c S) (hI : Im c S G) {y : Int32} (hQ : ∀ G', eqx mdlP G G' → Im c S G' → Q (some (.int (A_blows S y))) (hp G' L)) : CT 111 [.ref 30, .int y] (hp G L) Q := by
  obtain ⟨i1, i2, i3, i4, i5, i6, i7⟩ := id hI
  obtain ⟨hdR, hnR, -⟩ := id hR
  obtain ⟨r1, r2, r3, r4⟩ := id hdR
  have e1 := i1.1
  refine sm_meth hC [some (.ref 30), some (.int y)] rfl rfl rfl ?_
  refine sm_body [] 60 sm_k111 (fun CT K hC hK => ?_)
  unfold A_blows at hQ
  repeat' first
    | (with_reducible refine And.intro ?_ ?_)
    | ((with_reducible intro h9); first | exact absurd h9 (by decide) | (replace h9 := sb_f h9) | (obtain ⟨k, hk, rfl⟩ := inb_ex (x := y) (sb_t h9)) | skip)
    | (with_reducible exact zn_in (by omega) (by decide))
    | (with_reducible exact z01) | (with_reducible exact z11) | (with_reducible exact zb01 _)
    | (with_reducible exact zn_inb (by omega) (by decide))
    | (with_reducible exact zn_ina (by omega) (by decide))
    | (with_reducible exact zn_inc (by omega) (by decide))
    | ((conv => whnf); first | (with_reducible refine And.intro ?_ ?_) | ((with_reducible intro h9); first | exact absurd h9 (by decide) | (replace h9 := sb_f h9) | (obtain ⟨k, hk, rfl⟩ := inb_ex (x := y) (sb_t h9)) | skip) | (with_reducible refine hK _ _ _ _ (sm_un ?_)) | (with_reducible refine b_isHour (hC.mono (by omega)) e1 r1 ?_) | (with_reducible refine s_blowsNow (hC.mono (by omega)) i1 hdR i2 hnR hk (fun G' hx hp => ?_)))
  · exact zq (cq_f ‹inb y _ = false› rfl) (hQ G eqx_rfl hI)
  · exact zq (cq_t (inb_n hk (by omega)) (by rw [zn_clI (by omega)])) (hQ G' (eqx_sub rfl hx) (Im_39 (eqx_sub rfl hx) (hp i7) hI))
-- about
def aboutV (S : Nat → Nat → Nat) (v : Nat) (y : Int32) : Int32 := if y = nI 0 then nI (S 2 v) else if y = nI 1 then nI (S 3 v) else if y = nI 2 then nI (S 4 v) else if y = nI 3 then nI (so S v) else nI (trn (S 2 v) (S 4 v) 0 (y - nI 10).toNatClampNeg)
def aboutB (y : Int32) : Bool := inb y 4 || inb (y - nI 10) 4
def A_about (S : Nat → Nat → Nat) (x y : Int32) : Int32 := cond (inb x (S 0 1)) (cond (aboutB y) (aboutV S x.toNatClampNeg y) (-102)) (-101)
theorem aboutB_4 {j : Nat} (h : j < 4) : aboutB (nI j) = true := by unfold aboutB; rw [inb_n h (by decide)]; rfl
theorem aboutB_10 {y : Int32} (h : inb (y - nI 10) 4 = true) : aboutB y = true := by unfold aboutB; rw [h, Bool.or_true]
set_option maxRecDepth 100000 in
set_option maxHeartbeats 4000000 in
theorem f_about (hC : sm_C 4 CT) (hR : RS c S) (hI : Ic S G) {x y : Int32} (hQ : Q (some (.int (A_about S x y))) (hp G L)) : CT 48 [.ref 0, .int x, .int y] (hp G L) Q := by
  obtain ⟨hdR, hnR, -⟩ := id hR
  obtain ⟨r1, r2, r3, r4⟩ := id hdR
  obtain ⟨e1, e2, e3, e4, e5, e6, e7⟩ := hI.1
  refine sm_meth hC [some (.ref 0), some (.int x), some (.int y)] rfl rfl rfl ?_
  refine sm_body [] 60 sm_k48 (fun CT K hC hK => ?_)
  unfold A_about at hQ
  have ha : ∀ j, j < S 0 1 → x = nI j → aboutB y = true → ∀ z, z = aboutV S j y → Q (some (.int z)) (hp G L) := fun j hj ex hb z ez => zq (cq_t (by rw [ex]; exact inb_n hj (by omega)) (cq_t hb (by rw [ex, zn_clI (by omega)]; exact ez))) hQ
  repeat' first
    | (with_reducible refine And.intro ?_ ?_)
    | ((with_reducible intro h9); first | exact absurd h9 (by decide) | (replace h9 := sb_f h9) | (obtain ⟨j, hj, rfl⟩ := inb_ex (x := x) (sb_t h9)) | (replace h9 := sb_t h9) | skip)
    | (with_reducible exact zn_in (by omega) (by decide))
    | (with_reducible exact z01) | (with_reducible exact z11) | (with_reducible exact zb01 _)
    | (with_reducible exact zn_inb (by omega) (by decide))
    | (with_reducible exact zn_ina (by omega) (by decide))
    | (with_reducible exact zn_inc (by omega) (by decide))
    | ((conv => whnf); first | (with_reducible refine And.intro ?_ ?_) | ((with_reducible intro h9); first | exact absurd h9 (by decide) | (replace h9 := sb_f h9) | (obtain ⟨j, hj, rfl⟩ := inb_ex (x := x) (sb_t h9)) | (replace h9 := sb_t h9) | skip) | (with_reducible refine hK _ _ _ _ (sm_un ?_)) | (with_reducible refine b_hasVane (hC.mono (by omega)) e2 r2 ?_) | (with_reducible refine b_isQuarter (hC.mono (by omega)) ?_) | ((obtain ⟨k, hk, ek⟩ := inb_ex (x := y - nI 10) ‹_›; rw [ek, zn_clI (show j < 2 ^ 31 by omega), (e5 j hj).1, (e5 j hj).2.2]; refine s_turned (hC.mono (by omega)) (r4 j hj).1 (r4 j hj).2.2 (show 0 < 4 by decide) hk ?_)))
  · have e : y = nI 0 := h9
    exact ha j hj rfl (by rw [e]; exact aboutB_4 (by decide)) _ (by rw [zn_clI (by omega), (e5 j hj).1]; unfold aboutV; exact iq_t e rfl)
  · have e : y = nI 1 := h9
    have n0 : ¬ y = nI 0 := ‹¬ y = (nI 0, 44).fst›
    exact ha j hj rfl (by rw [e]; exact aboutB_4 (by decide)) _ (by rw [zn_clI (by omega), (e5 j hj).2.1]; unfold aboutV; exact iq_f n0 (iq_t e rfl))
  · have e : y = nI 2 := h9
    have n0 : ¬ y = nI 0 := ‹¬ y = (nI 0, 44).fst›
    have n1 : ¬ y = nI 1 := ‹¬ y = (nI 1, 54).fst›
    exact ha j hj rfl (by rw [e]; exact aboutB_4 (by decide)) _ (by rw [zn_clI (by omega), (e5 j hj).2.2]; unfold aboutV; exact iq_f n0 (iq_f n1 (iq_t e rfl)))
  · have e : y = nI 3 := h9
    have n0 : ¬ y = nI 0 := ‹¬ y = (nI 0, 44).fst›
    have n1 : ¬ y = nI 1 := ‹¬ y = (nI 1, 54).fst›
    have n2 : ¬ y = nI 2 := ‹¬ y = (nI 2, 64).fst›
    exact ha j hj rfl (by rw [e]; exact aboutB_4 (by decide)) _ (by rw [zn_clI (by omega), e6 j (by omega)]; unfold aboutV; exact iq_f n0 (iq_f n1 (iq_f n2 (iq_t e rfl))))
  · have n0 : ¬ y = nI 0 := ‹¬ y = (nI 0, 44).fst›
    have n1 : ¬ y = nI 1 := ‹¬ y = (nI 1, 54).fst›
    have n2 : ¬ y = nI 2 := ‹¬ y = (nI 2, 64).fst›
    have n3 : ¬ y = nI 3 := ‹¬ y = (nI 3, 74).fst›
    refine zq (cq_t (inb_n hj (by omega)) (cq_f ?_ rfl)) hQ
    unfold aboutB
    rw [h9, Bool.or_false]
    cases hb : inb y 4 with
    | false => rfl
    | true =>
      obtain ⟨i, hi, ei⟩ := inb_ex hb
      have : i = 0 ∨ i = 1 ∨ i = 2 ∨ i = 3 := by omega
      rcases this with rfl | rfl | rfl | rfl <;> contradiction
  · have n0 : ¬ y = nI 0 := ‹¬ y = (nI 0, 44).fst›
    have n1 : ¬ y = nI 1 := ‹¬ y = (nI 1, 54).fst›
    have n2 : ¬ y = nI 2 := ‹¬ y = (nI 2, 64).fst›
    have n3 : ¬ y = nI 3 := ‹¬ y = (nI 3, 74).fst›
    exact ha j hj rfl (aboutB_10 h9) _ (by unfold aboutV; exact iq_f n0 (iq_f n1 (iq_f n2 (iq_f n3 (by rw [‹y - nI 10 = nI _›, zn_clI (by omega)])))))
  · exact zq (cq_f ‹inb x _ = false› rfl) hQ
set_option maxRecDepth 100000 in
set_option maxHeartbeats 4000000 in
theorem g_vaneNow (hC : sm_C 4 CT) (hR : RS c S) (hI : Im c S G) {v : Nat} {y : Int32} (hv : v < S 0 1) (hy : aboutB y = true) (hQ : Q (some (.int (aboutV S v y))) (hp G L)) : CT 95 [.ref 30, .int (nI v), .int y] (hp G L) Q := by
  obtain ⟨i1, i2, i3, i4, i5, i6, i7⟩ := id hI
  obtain ⟨hdR, hnR, -⟩ := id hR
  obtain ⟨r1, r2, r3, r4⟩ := id hdR
  obtain ⟨e1, e2, e3, e4⟩ := id i1
  have cv : (nI v).toNatClampNeg = v := nI_clamp (by omega)
  refine sm_meth hC [some (.ref 30), some (.int (nI v)), some (.int y)] rfl rfl rfl ?_
  refine sm_body [] 60 sm_k95 (fun CT K hC hK => ?_)
  unfold aboutV at hQ
  have h10 : ¬ y = nI 0 → ¬ y = nI 1 → ¬ y = nI 2 → ¬ y = nI 3 → ∃ k, k < 4 ∧ y - nI 10 = nI k := by
    intro n0 n1 n2 n3
    unfold aboutB at hy
    cases hb : inb y 4 with
    | true =>
      obtain ⟨i, hi, ei⟩ := inb_ex hb
      have : i = 0 ∨ i = 1 ∨ i = 2 ∨ i = 3 := by omega
      rcases this with rfl | rfl | rfl | rfl <;> contradiction
    | false =>
      rw [hb, Bool.false_or] at hy
      exact inb_ex hy
  repeat' first
    | (with_reducible refine And.intro ?_ ?_)
    | ((with_reducible intro h9); first | exact absurd h9 (by decide) | skip)
    | (with_reducible exact zn_in (by omega) (by decide))
    | (with_reducible exact z01) | (with_reducible exact z11) | (with_reducible exact zb01 _)
    | (with_reducible exact zn_inb (by omega) (by decide))
    | (with_reducible exact zn_ina (by omega) (by decide))
    | (with_reducible exact zn_inc (by omega) (by decide))
    | ((conv => whnf); first | (with_reducible refine And.intro ?_ ?_) | ((with_reducible intro h9); first | exact absurd h9 (by decide) | skip) | (with_reducible refine hK _ _ _ _ (sm_un ?_)) | (with_reducible refine s_seenOf (hC.mono (by omega)) i2 hnR hdR (by omega) ?_) | ((obtain ⟨k, hk, ek⟩ := h10 ‹_› ‹_› ‹_› ‹_›; rw [ek, cv, (e4 v hv).1, (e4 v hv).2.2]; refine s_turnedM (hC.mono (by omega)) (r4 v hv).1 (r4 v hv).2.2 (show 0 < 4 by decide) hk ?_)))
  · have e : y = nI 0 := h9
    exact zq (iq_t e (by rw [cv, (e4 v hv).1])) hQ
  · have e : y = nI 1 := h9
    have n0 : ¬ y = nI 0 := ‹¬ y = (nI 0, 32).fst›
    exact zq (iq_f n0 (iq_t e (by rw [cv, (e4 v hv).2.1]))) hQ
  · have e : y = nI 2 := h9
    have n0 : ¬ y = nI 0 := ‹¬ y = (nI 0, 32).fst›
    have n1 : ¬ y = nI 1 := ‹¬ y = (nI 1, 39).fst›
    exact zq (iq_f n0 (iq_f n1 (iq_t e (by rw [cv, (e4 v hv).2.2])))) hQ
  · have e : y = nI 3 := h9
    have n0 : ¬ y = nI 0 := ‹¬ y = (nI 0, 32).fst›
    have n1 : ¬ y = nI 1 := ‹¬ y = (nI 1, 39).fst›
    have n2 : ¬ y = nI 2 := ‹¬ y = (nI 2, 46).fst›
    exact zq (iq_f n0 (iq_f n1 (iq_f n2 (iq_t e rfl)))) hQ
  · have n0 : ¬ y = nI 0 := ‹¬ y = (nI 0, 32).fst›
    have n1 : ¬ y = nI 1 := ‹¬ y = (nI 1, 39).fst›
    have n2 : ¬ y = nI 2 := ‹¬ y = (nI 2, 46).fst›
    have n3 : ¬ y = nI 3 := h9
    exact zq (iq_f n0 (iq_f n1 (iq_f n2 (iq_f n3 (by rw [‹y - nI 10 = nI _›, zn_clI (by omega)]))))) hQ
theorem aboutB_m {y : Int32} : aboutB y = true ↔ ((nI 0 ≤ y ∧ y ≤ nI 3) ∨ (nI 10 ≤ y ∧ y ≤ nI 13)) := by
  unfold aboutB
  rw [Bool.or_eq_true]
  constructor
  · rintro (hb | hb)
    · obtain ⟨i, hi, ei⟩ := inb_ex hb
      rw [ei]
      exact Or.inl ⟨nI_le (by omega) (by omega), nI_le (by omega) (by omega)⟩
    · obtain ⟨i, hi, ei⟩ := inb_ex hb
      have e : y = nI (10 + i) := by
        have : y = (y - nI 10) + nI 10 := (Int32.sub_add_cancel y (nI 10)).symm
        rw [this, ei, nI_add, Nat.add_comm]
      rw [e]
      exact Or.inr ⟨nI_le (by omega) (by omega), nI_le (by omega) (by omega)⟩
  · rintro (⟨h1, h2⟩ | ⟨h1, h2⟩)
    · obtain ⟨j, hj, e⟩ := wi_t (x := y) (y := nI 3) (n := 4) (by decide) rfl h1 h2
      rw [e]
      exact Or.inl (inb_n hj (by decide))
    · obtain ⟨j, hj, e⟩ := wi_t (x := y) (y := nI 13) (n := 14) (by decide) rfl (Int32.le_trans (by decide) h1) h2
      subst e
      have := zle (by decide) (by omega) h1
      refine Or.inr ?_
      rw [pk_sub this]
      exact inb_n (by omega) (by decide)
set_option maxRecDepth 100000 in
set_option maxHeartbeats 4000000 in
theorem g_about (hC : sm_C 5 CT) (hR : RS c S) (hI : Im c S G) {x y : Int32} (hQ : Q (some (.int (A_about S x y))) (hp G L)) : CT 96 [.ref 30, .int x, .int y] (hp G L) Q := by
  obtain ⟨i1, i2, i3, i4, i5, i6, i7⟩ := id hI
  obtain ⟨hdR, hnR, -⟩ := id hR
  obtain ⟨r1, r2, r3, r4⟩ := id hdR
  have e2 := i1.2.1
  refine sm_meth hC [some (.ref 30), some (.int x), some (.int y)] rfl rfl rfl ?_
  refine sm_body [] 60 sm_k96 (fun CT K hC hK => ?_)
  unfold A_about at hQ
  repeat' first
    | (with_reducible refine And.intro ?_ ?_)
    | ((with_reducible intro h9); first | exact absurd h9 (by decide) | (replace h9 := sb_f h9) | (obtain ⟨j, hj, rfl⟩ := inb_ex (x := x) (sb_t h9)) | skip)
    | (with_reducible exact zn_in (by omega) (by decide))
    | (with_reducible exact z01) | (with_reducible exact z11) | (with_reducible exact zb01 _)
    | (with_reducible exact zn_inb (by omega) (by decide))
    | (with_reducible exact zn_ina (by omega) (by decide))
    | (with_reducible exact zn_inc (by omega) (by decide))
    | ((conv => whnf); first | (with_reducible refine And.intro ?_ ?_) | ((with_reducible intro h9); first | exact absurd h9 (by decide) | (replace h9 := sb_f h9) | (obtain ⟨j, hj, rfl⟩ := inb_ex (x := x) (sb_t h9)) | skip) | (with_reducible refine hK _ _ _ _ (sm_un ?_)) | (with_reducible refine b_isVane (hC.mono (by omega)) e2 r2 ?_) | (with_reducible refine s_within (hC.mono (by omega)) (fun hl hr => ?_) (fun hn => ?_)) | (refine g_vaneNow (hC.mono (by omega)) hR hI hj (aboutB_m.mpr (by first | exact Or.inl ⟨‹_›, ‹_›⟩ | exact Or.inr ⟨‹_›, ‹_›⟩)) ?_))
  · exact zq (cq_t (inb_n hj (by omega)) (cq_t (aboutB_m.mpr (Or.inl ⟨‹nI 0 ≤ y›, ‹y ≤ nI 3›⟩)) (by rw [zn_clI (by omega)]))) hQ
  · exact zq (cq_t (inb_n hj (by omega)) (cq_t (aboutB_m.mpr (Or.inr ⟨‹nI 10 ≤ y›, ‹y ≤ nI 13›⟩)) (by rw [zn_clI (by omega)]))) hQ
  · refine zq (cq_t (inb_n hj (by omega)) (cq_f ?_ rfl)) hQ
    cases hb : aboutB y with
    | false => rfl
    | true =>
      rcases aboutB_m.mp hb with z | z
      · exact absurd z ‹¬ (nI 0 ≤ y ∧ y ≤ nI 3)›
      · exact absurd z ‹¬ (nI 10 ≤ y ∧ y ≤ nI 13)›
  · exact zq (cq_f ‹inb x _ = false› rfl) hQ
-- as
def A_as (S : Nat → Nat → Nat) (x y : Int32) : Int32 := cond (inb x (S 0 1)) (cond (inb y 5) (cond (suchB (S 2 x.toNatClampNeg) y.toNatClampNeg) x (-1)) (-102)) (-101)
set_option maxRecDepth 100000 in
set_option maxHeartbeats 4000000 in
theorem f_as (hC : sm_C 2 CT) (hR : RS c S) (hI : Ic S G) {x y : Int32} (hQ : Q (some (.int (A_as S x y))) (hp G L)) : CT 49 [.ref 0, .int x, .int y] (hp G L) Q := by
  obtain ⟨hdR, hnR, -⟩ := id hR
  obtain ⟨r1, r2, r3, r4⟩ := id hdR
  obtain ⟨e1, e2, e3, e4, e5, e6, e7⟩ := hI.1
  refine sm_meth hC [some (.ref 0), some (.int x), some (.int y)] rfl rfl rfl ?_
  refine sm_body [] 60 sm_k49 (fun CT K hC hK => ?_)
  unfold A_as at hQ
  repeat' first
    | (with_reducible refine And.intro ?_ ?_)
    | ((with_reducible intro h9); first | exact absurd h9 (by decide) | (replace h9 := sb_f h9) | (obtain ⟨j, hj, rfl⟩ := inb_ex (x := x) (sb_t h9)) | (obtain ⟨k, hk, rfl⟩ := inb_ex (x := y) (sb_t h9)) | (replace h9 := sb_t h9) | skip)
    | (with_reducible exact zn_in (by omega) (by decide))
    | (with_reducible exact z01) | (with_reducible exact z11) | (with_reducible exact zb01 _)
    | (with_reducible exact zn_inb (by omega) (by decide))
    | (with_reducible exact zn_ina (by omega) (by decide))
    | (with_reducible exact zn_inc (by omega) (by decide))
    | ((conv => whnf); first | (with_reducible refine And.intro ?_ ?_) | ((with_reducible intro h9); first | exact absurd h9 (by decide) | (replace h9 := sb_f h9) | (obtain ⟨j, hj, rfl⟩ := inb_ex (x := x) (sb_t h9)) | (obtain ⟨k, hk, rfl⟩ := inb_ex (x := y) (sb_t h9)) | (replace h9 := sb_t h9) | skip) | (with_reducible refine hK _ _ _ _ (sm_un ?_)) | (with_reducible refine b_hasVane (hC.mono (by omega)) e2 r2 ?_) | (with_reducible refine b_isKind (hC.mono (by omega)) ?_) | ((rw [zn_clI (show j < 2 ^ 31 by omega), (e5 j hj).1]; refine s_isSuch (hC.mono (by omega)) (by have := (r4 j hj).1; omega) hk ?_)))
  · exact zq (cq_t (inb_n hj (by omega)) (cq_t (inb_n hk (by omega)) (cq_f (by rw [zn_clI (by omega), zn_clI (by omega)]; exact h9) rfl))) hQ
  · exact zq (cq_t (inb_n hj (by omega)) (cq_t (inb_n hk (by omega)) (cq_t (by rw [zn_clI (by omega), zn_clI (by omega)]; exact h9) rfl))) hQ
  · exact zq (cq_t (inb_n hj (by omega)) (cq_f ‹inb y _ = false› rfl)) hQ
  · exact zq (cq_f ‹inb x _ = false› rfl) hQ
set_option maxRecDepth 100000 in
set_option maxHeartbeats 4000000 in
theorem g_as (hC : sm_C 3 CT) (hR : RS c S) (hI : Im c S G) {x y : Int32} (hQ : Q (some (.int (A_as S x y))) (hp G L)) : CT 97 [.ref 30, .int x, .int y] (hp G L) Q := by
  obtain ⟨i1, i2, i3, i4, i5, i6, i7⟩ := id hI
  obtain ⟨hdR, hnR, -⟩ := id hR
  obtain ⟨r1, r2, r3, r4⟩ := id hdR
  obtain ⟨e1, e2, e3, e4⟩ := id i1
  refine sm_meth hC [some (.ref 30), some (.int x), some (.int y), none] rfl rfl rfl ?_
  refine sm_body [] 60 sm_k97 (fun CT K hC hK => ?_)
  unfold A_as at hQ
  repeat' first
    | (with_reducible refine And.intro ?_ ?_)
    | ((with_reducible intro h9); first | exact absurd h9 (by decide) | (replace h9 := sb_f h9) | (obtain ⟨j, hj, rfl⟩ := inb_ex (x := x) (sb_t h9)) | (obtain ⟨k, hk, rfl⟩ := inb_ex (x := y) (sb_t h9)) | skip)
    | (with_reducible exact zn_in (by omega) (by decide))
    | (with_reducible exact z01) | (with_reducible exact z11) | (with_reducible exact zb01 _)
    | (with_reducible exact zn_inb (by omega) (by decide))
    | (with_reducible exact zn_ina (by omega) (by decide))
    | (with_reducible exact zn_inc (by omega) (by decide))
    | ((conv => whnf); first | (with_reducible refine And.intro ?_ ?_) | ((with_reducible intro h9); first | exact absurd h9 (by decide) | (replace h9 := sb_f h9) | (obtain ⟨j, hj, rfl⟩ := inb_ex (x := x) (sb_t h9)) | (obtain ⟨k, hk, rfl⟩ := inb_ex (x := y) (sb_t h9)) | skip) | (with_reducible refine hK _ _ _ _ (sm_un ?_)) | (with_reducible refine b_isVane (hC.mono (by omega)) e2 r2 ?_) | (with_reducible refine b_withinM (n := 5) (hC.mono (by omega)) (by decide) rfl ?_))
  all_goals try simp only [zn_clI (show j < 2 ^ 31 by omega), (e4 j hj).1] at *
  · exact zq (cq_t (inb_n hj (by omega)) (cq_t (inb_n hk (by omega)) (cq_t (by rw [zn_clI (by omega)]; exact (such_i _ (by have := (r4 j hj).1; omega) k hk).1 (Or.inl ‹nI k = nI 0›)) rfl))) hQ
  · exact zq (cq_t (inb_n hj (by omega)) (cq_t (inb_n hk (by omega)) (cq_t (by rw [zn_clI (by omega)]; exact (such_i _ (by have := (r4 j hj).1; omega) k hk).1 (Or.inr (Or.inl (‹nI (S 2 j) = nI k›).symm))) rfl))) hQ
  · exact zq (cq_t (inb_n hj (by omega)) (cq_t (inb_n hk (by omega)) (cq_f (by rw [zn_clI (by omega)]; exact (such_i _ (by have := (r4 j hj).1; omega) k hk).2 ⟨‹¬ nI k = nI 0›, fun z => absurd z.symm ‹¬ nI (S 2 j) = nI k›, fun z => absurd z.2 ‹¬ nI k = nI 3›⟩) rfl))) hQ
  · exact zq (cq_t (inb_n hj (by omega)) (cq_t (inb_n hk (by omega)) (cq_f (by rw [zn_clI (by omega)]; exact (such_i _ (by have := (r4 j hj).1; omega) k hk).2 ⟨‹¬ nI k = nI 0›, fun z => absurd z.symm ‹¬ nI (S 2 j) = nI k›, fun z => absurd z.1 ‹¬ nI (S 2 j) = nI 4›⟩) rfl))) hQ
  · exact zq (cq_t (inb_n hj (by omega)) (cq_t (inb_n hk (by omega)) (cq_t (by rw [zn_clI (by omega)]; exact (such_i _ (by have := (r4 j hj).1; omega) k hk).1 (Or.inr (Or.inr ⟨‹nI (S 2 j) = nI 4›, ‹nI k = nI 3›⟩))) rfl))) hQ
  · exact zq (cq_t (inb_n hj (by omega)) (cq_f ‹inb y _ = false› rfl)) hQ
  · exact zq (cq_f ‹inb x _ = false› rfl) hQ
-- count
def A_count (S : Nat → Nat → Nat) (y : Int32) : Int32 := if y = nI 0 then nI (S 0 0) else if y = nI 1 then nI (ct (fun h => !Nat.beq (S 1 h) 4) (S 0 0)) else if y = nI 2 then nI (S 0 1) else if y = nI 3 then nI (S 0 2) else if y = nI 4 then nI (S 0 3) else if y = nI 5 then nI (S 0 4) else if y = nI 6 then nI (S 0 5) else -102
theorem ct_not {P : Nat → Bool} : ∀ n, ct P n + ct (fun i => !P i) n = n
  | 0 => rfl
  | n + 1 => by
    have h := ct_not (P := P) n
    show ct P n + bn (P n) + (ct (fun i => !P i) n + bn (!P n)) = n + 1
    cases P n <;> simp only [Bool.not_true, Bool.not_false, bn, cond] <;> omega
set_option maxRecDepth 100000 in
set_option maxHeartbeats 4000000 in
theorem f_count (hC : sm_C 2 CT) (hR : RS c S) (hI : Ic S G) {y : Int32} (hQ : Q (some (.int (A_count S y))) (hp G L)) : CT 63 [.ref 0, .int y] (hp G L) Q := by
  obtain ⟨hdR, hnR, -⟩ := id hR
  obtain ⟨i1, i2, i3, i4, i5⟩ := id hI
  obtain ⟨e1, e2, e3, e4, e5, e6, e7⟩ := id i1
  refine sm_meth hC [some (.ref 0), some (.int y)] rfl rfl rfl ?_
  refine sm_body [] 60 sm_k63 (fun CT K hC hK => ?_)
  unfold A_count at hQ
  repeat' first
    | (with_reducible refine And.intro ?_ ?_)
    | ((with_reducible intro h9); first | exact absurd h9 (by decide) | skip)
    | (with_reducible exact zn_in (by omega) (by decide))
    | (with_reducible exact z01) | (with_reducible exact z11) | (with_reducible exact zb01 _)
    | (with_reducible exact zn_inb (by omega) (by decide))
    | (with_reducible exact zn_ina (by omega) (by decide))
    | (with_reducible exact zn_inc (by omega) (by decide))
    | ((conv => whnf); first | (with_reducible refine And.intro ?_ ?_) | ((with_reducible intro h9); first | exact absurd h9 (by decide) | skip) | (with_reducible refine hK _ _ _ _ (sm_un ?_)) | (with_reducible refine s_knownWinds (hC.mono (by omega)) (hH_cD i1) hdR ?_))
  · exact zq (iq_t h9 e1) hQ
  · exact zq (iq_f ‹_› (iq_t h9 rfl)) hQ
  · exact zq (iq_f ‹_› (iq_f ‹_› (iq_t h9 e2))) hQ
  · exact zq (iq_f ‹_› (iq_f ‹_› (iq_f ‹_› (iq_t h9 e3)))) hQ
  · exact zq (iq_f ‹_› (iq_f ‹_› (iq_f ‹_› (iq_f ‹_› (iq_t h9 i2.1))))) hQ
  · exact zq (iq_f ‹_› (iq_f ‹_› (iq_f ‹_› (iq_f ‹_› (iq_f ‹_› (iq_t h9 i3.2.1)))))) hQ
  · exact zq (iq_f ‹_› (iq_f ‹_› (iq_f ‹_› (iq_f ‹_› (iq_f ‹_› (iq_f ‹_› (iq_t h9 i3.2.2))))))) hQ
  · exact zq (iq_f ‹_› (iq_f ‹_› (iq_f ‹_› (iq_f ‹_› (iq_f ‹_› (iq_f ‹_› (iq_f ‹_› rfl))))))) hQ
set_option maxRecDepth 100000 in
set_option maxHeartbeats 4000000 in
theorem g_howMany (hC : sm_C 2 CT) (hR : RS c S) (hI : Im c S G) {y : Int32} (hQ : Q (some (.int (A_count S y))) (hp G L)) : CT 136 [.ref 30, .int y] (hp G L) Q := by
  obtain ⟨i1, i2, i3, i4, i5, i6, i7⟩ := id hI
  obtain ⟨hdR, hnR, -⟩ := id hR
  obtain ⟨e1, e2, e3, e4⟩ := id i1
  have hn := ct_not (P := fun h => Nat.beq (S 1 h) 4) (S 0 0)
  refine sm_meth hC [some (.ref 30), some (.int y)] rfl rfl rfl ?_
  refine sm_body [] 60 sm_k136 (fun CT K hC hK => ?_)
  unfold A_count at hQ
  repeat' first
    | (with_reducible refine And.intro ?_ ?_)
    | ((with_reducible intro h9); first | exact absurd h9 (by decide) | skip)
    | (with_reducible exact zn_in (by omega) (by decide))
    | (with_reducible exact z01) | (with_reducible exact z11) | (with_reducible exact zb01 _)
    | (with_reducible exact zn_inb (by omega) (by decide))
    | (with_reducible exact zn_ina (by omega) (by decide))
    | (with_reducible exact zn_inc (by omega) (by decide))
    | ((conv => whnf); first | (with_reducible refine And.intro ?_ ?_) | ((with_reducible intro h9); first | exact absurd h9 (by decide) | skip) | (with_reducible refine hK _ _ _ _ (sm_un ?_)) | (with_reducible refine s_unknownHours (hC.mono (by omega)) i1 hdR ?_))
  · exact zq (iq_t h9 e1) hQ
  · exact zq (iq_f ‹_› (iq_t h9 (by rw [e1, pk_sub (by omega)]; exact nI_i (by omega)))) hQ
  · exact zq (iq_f ‹_› (iq_f ‹_› (iq_t h9 e2))) hQ
  · exact zq (iq_f ‹_› (iq_f ‹_› (iq_f ‹_› (iq_t h9 i2.1)))) hQ
  · exact zq (iq_f ‹_› (iq_f ‹_› (iq_f ‹_› (iq_f ‹_› (iq_t h9 i3.1))))) hQ
  · exact zq (iq_f ‹_› (iq_f ‹_› (iq_f ‹_› (iq_f ‹_› (iq_f ‹_› (iq_t h9 i4.1)))))) hQ
  · exact zq (iq_f ‹_› (iq_f ‹_› (iq_f ‹_› (iq_f ‹_› (iq_f ‹_› (iq_f ‹_› (iq_t h9 i4.2))))))) hQ
  · exact zq (iq_f ‹_› (iq_f ‹_› (iq_f ‹_› (iq_f ‹_› (iq_f ‹_› (iq_f ‹_› (iq_f ‹_› rfl))))))) hQ
set_option maxRecDepth 100000 in
set_option maxHeartbeats 4000000 in
theorem g_count (hC : sm_C 3 CT) (hR : RS c S) (hI : Im c S G) {y : Int32} (hQ : Q (some (.int (A_count S y))) (hp G L)) : CT 137 [.ref 30, .int y] (hp G L) Q := by
  refine sm_meth hC [some (.ref 30), some (.int y)] rfl rfl rfl ?_
  refine sm_body [] 60 sm_k137 (fun CT K hC hK => ?_)
  repeat' first
    | (with_reducible refine And.intro ?_ ?_)
    | ((with_reducible intro h9); first | exact absurd h9 (by decide) | skip)
    | (with_reducible exact zn_in (by omega) (by decide))
    | (with_reducible exact z01) | (with_reducible exact z11) | (with_reducible exact zb01 _)
    | (with_reducible exact zn_inb (by omega) (by decide))
    | (with_reducible exact zn_ina (by omega) (by decide))
    | (with_reducible exact zn_inc (by omega) (by decide))
    | ((conv => whnf); first | (with_reducible refine And.intro ?_ ?_) | ((with_reducible intro h9); first | exact absurd h9 (by decide) | skip) | (with_reducible refine hK _ _ _ _ (sm_un ?_)) | (with_reducible refine g_howMany (hC.mono (by omega)) hR hI ?_))
  exact hQ
end FACE2
end
section
/-! States alike in what counts for the day. -/
def sim (S S' : Nat → Nat → Nat) : Prop := S' 0 0 = S 0 0 ∧ S' 0 1 = S 0 1 ∧ S' 0 2 = S 0 2 ∧ S' 1 = S 1 ∧ S' 2 = S 2 ∧ S' 3 = S 3 ∧ S' 4 = S 4 ∧ S' 6 = S 6 ∧ S' 7 = S 7 ∧ S' 8 = S 8
section SIM
variable {S S' : Nat → Nat → Nat}
theorem dR_sim (h : sim S S') (e : dR S) : dR S' := by
  obtain ⟨h0, h1, h2, h3, h4, h5, h6, h7, h8, h9⟩ := h
  unfold dR at *
  rw [h0, h1, h3, h4, h5, h6]
  exact e
theorem nR_sim (h : sim S S') (e : nR S) : nR S' := by
  obtain ⟨h0, h1, h2, h3, h4, h5, h6, h7, h8, h9⟩ := h
  unfold nR at *
  rw [h0, h1, h2, h7, h8, h9]
  exact e
theorem ob_sim (h : sim S S') : ob S' = ob S := by
  obtain ⟨h0, h1, h2, h3, h4, h5, h6, h7, h8, h9⟩ := h
  funext v k q
  unfold ob
  simp only [h2, h7, h8, h9]
theorem tv_sim (h : sim S S') : tv S' = tv S := by
  obtain ⟨h0, h1, h2, h3, h4, h5, h6, h7, h8, h9⟩ := h
  funext v a w
  unfold tv
  rw [h4, h6]
theorem okq_sim (h : sim S S') : okq S' = okq S := by
  have e1 := ob_sim h
  have e2 := tv_sim h
  obtain ⟨h0, h1, h2, h3, h4, h5, h6, h7, h8, h9⟩ := h
  funext k f q
  unfold okq may ag tf
  simp only [e1, e2, h1, h3]
theorem tf_sim (h : sim S S') : tf S' = tf S := by
  have e2 := tv_sim h
  funext f q v
  unfold tf
  rw [e2]
theorem wk_sim (h : sim S S') : ∀ {n k : Nat} {f : Nat → Nat}, wk S' n k f = wk S n k f
  | 0, k, f => rfl
  | n + 1, k, f => by
    rw [wk, wk, okq_sim h, tf_sim h]
    apply sg_congr
    intro q _
    rw [wk_sim h]
theorem wx_sim (h : sim S S') {i : Nat} : ∀ {n k : Nat} {f : Nat → Nat}, wx S' n k f i = wx S n k f i
  | 0, k, f => rfl
  | n + 1, k, f => by
    rw [wx, wx, okq_sim h, tf_sim h, h.2.1]
    apply sg_congr
    intro q _
    rw [wx_sim h, wk_sim h]
theorem wy_sim (h : sim S S') {i : Nat} : ∀ {n k : Nat} {f : Nat → Nat}, wy S' n k f i = wy S n k f i
  | 0, k, f => rfl
  | n + 1, k, f => by
    rw [wy, wy, okq_sim h, tf_sim h]
    apply sg_congr
    intro q _
    rw [wy_sim h, wk_sim h]
theorem tl_sim (h : sim S S') {G : Nat → Nat → Int32} (e : tl S G) : tl S' G := by
  unfold tl at *
  simp only [wk_sim h, wx_sim h, wy_sim h, h.1, h.2.2.2.2.2.1]
  exact e
theorem lf_sim (h : sim S S') : lf S' = lf S := by
  funext v k
  unfold lf
  rw [ob_sim h]
theorem so_sim (h : sim S S') : so S' = so S := by
  funext v
  unfold so
  rw [h.2.2.1, h.2.2.2.2.2.2.2.1]
theorem hF_sim (h : sim S S') {h0 h2 h6 : Int32} {W K A T O L : Nat → Int32} (e : hF S h0 h2 h6 W K A T O L) : hF S' h0 h2 h6 W K A T O L := by
  unfold hF at *
  rw [lf_sim h, so_sim h, h.1, h.2.1, h.2.2.1, h.2.2.2.1, h.2.2.2.2.1, h.2.2.2.2.2.1, h.2.2.2.2.2.2.1]
  exact e
theorem mD_sim (h : sim S S') {G : Nat → Nat → Int32} (e : mD S G) : mD S' G := by
  unfold mD at *
  rw [h.1, h.2.1, h.2.2.2.1, h.2.2.2.2.1, h.2.2.2.2.2.1, h.2.2.2.2.2.2.1]
  exact e
theorem mS_sim (h : sim S S') {G : Nat → Nat → Int32} (e : mS S G) : mS S' G := by
  unfold mS at *
  rw [h.2.2.1, h.2.2.2.2.2.2.2.1, h.2.2.2.2.2.2.2.2.1, h.2.2.2.2.2.2.2.2.2]
  exact e
theorem cT_sim (h : sim S S') {G : Nat → Nat → Int32} (e : cT S G) : cT S' G := by
  rcases e with e | e
  · exact Or.inl ⟨e.1, tl_sim h e.2⟩
  · exact Or.inr e
end SIM
end
section
/-! Calls that change the state: blank, forget, oil, wind, letter. -/
section MOVES
variable {CT : sm_CT} {G : Nat → Nat → Int32} {L : Nat → Nat → Int64} {Q : sm_Q} {S : Nat → Nat → Nat} {c : Nat} {h : sm_H}
def N_blank (S : Nat → Nat → Nat) : Nat → Nat → Nat := su S 0 (su (S 0) 3 0)
set_option maxRecDepth 100000 in
set_option maxHeartbeats 4000000 in
theorem f_blank (hC : sm_C 1 CT) (hR : RS c S) (hI : Ic S G) (hQ : ∀ G', eqx clsP G G' → Ic (N_blank S) G' → Q (some (.int (nI (S 0 3)))) (hp G' L)) : CT 43 [.ref 0] (hp G L) Q := by
  obtain ⟨i1, i2, i3, i4, i5⟩ := hI
  refine sm_meth hC [some (.ref 0), none] rfl rfl rfl ?_
  refine sm_body [] 60 sm_k43 (fun CT K hC hK => ?_)
  repeat' first
    | (with_reducible refine And.intro ?_ ?_)
    | ((with_reducible intro h9); first | exact absurd h9 (by decide) | skip)
    | (with_reducible exact zn_in (by omega) (by decide))
    | (with_reducible exact z01) | (with_reducible exact z11) | (with_reducible exact zb01 _)
    | (with_reducible exact zn_inb (by omega) (by decide))
    | (with_reducible exact zn_ina (by omega) (by decide))
    | (with_reducible exact zn_inc (by omega) (by decide))
    | ((conv => whnf); first | (with_reducible refine And.intro ?_ ?_) | ((with_reducible intro h9); first | exact absurd h9 (by decide) | skip) | (with_reducible refine hK _ _ _ _ (sm_un ?_)))
  all_goals (conv => whnf)
  simp only [hp_0, hp_1, hp_2, hp_3, hp_4, hp_5, hp_6, hp_7, hp_8, hp_9, hp_10, hp_11, hp_12, hp_13, hp_14, hp_15, hp_16, hp_17, hp_18, hp_19, hp_20, hp_22, hp_23, hp_24, hp_25, hp_26, hp_27, hp_28, hp_29, hp_30, hp_31, hp_32, hp_33, hp_34, hp_35, hp_36, hp_37, hp_38, hp_39, hp_40, hp_41, hp_42, hp_43, hp_44, hp_45, hp_46, hp_47, hp_48, hp_49, hf0_5, hf0_6, hf0_7, hf1_1, hf3_0, hf3_2, hf3_6, hf10_0, hf10_2, hf10_6, hf17_3, hf17_4, hf20_3, hf20_4, hf30_0, hf30_1, hf30_3, hf30_7, hf30_11, hf30_12, hf30_20, hf30_22, hf30_23, hf30_24, hf30_25, hf30_21, hf30_31, upd_su, updL_su, i2.1]
  exact hQ _ (eqx_su 1 _ rfl eqx_rfl) ⟨hF_sim ⟨rfl, rfl, rfl, rfl, rfl, rfl, rfl, rfl, rfl, rfl⟩ i1, ⟨rfl, fun i hi => absurd hi (Nat.not_lt_zero _)⟩, i3, (by have e : cT (N_blank S) G := cT_sim (S := S) (S' := N_blank S) ⟨rfl, rfl, rfl, rfl, rfl, rfl, rfl, rfl, rfl, rfl⟩ i4; exact e), fun h => hF_sim ⟨rfl, rfl, rfl, rfl, rfl, rfl, rfl, rfl, rfl, rfl⟩ (i5 h)⟩
set_option maxRecDepth 100000 in
set_option maxHeartbeats 4000000 in
theorem g_blank (hC : sm_C 1 CT) (hR : RS c S) (hI : Im c S G) (hQ : ∀ G', eqx mdlP G G' → Im c (N_blank S) G' → Q (some (.int (nI (S 0 3)))) (hp G' L)) : CT 83 [.ref 30] (hp G L) Q := by
  obtain ⟨i1, i2, i3, i4, i5, i6, i7⟩ := hI
  refine sm_meth hC [some (.ref 30), none] rfl rfl rfl ?_
  refine sm_body [] 60 sm_k83 (fun CT K hC hK => ?_)
  repeat' first
    | (with_reducible refine And.intro ?_ ?_)
    | ((with_reducible intro h9); first | exact absurd h9 (by decide) | skip)
    | (with_reducible exact zn_in (by omega) (by decide))
    | (with_reducible exact z01) | (with_reducible exact z11) | (with_reducible exact zb01 _)
    | (with_reducible exact zn_inb (by omega) (by decide))
    | (with_reducible exact zn_ina (by omega) (by decide))
    | (with_reducible exact zn_inc (by omega) (by decide))
    | ((conv => whnf); first | (with_reducible refine And.intro ?_ ?_) | ((with_reducible intro h9); first | exact absurd h9 (by decide) | skip) | (with_reducible refine hK _ _ _ _ (sm_un ?_)))
  all_goals (conv => whnf)
  simp only [hp_0, hp_1, hp_2, hp_3, hp_4, hp_5, hp_6, hp_7, hp_8, hp_9, hp_10, hp_11, hp_12, hp_13, hp_14, hp_15, hp_16, hp_17, hp_18, hp_19, hp_20, hp_22, hp_23, hp_24, hp_25, hp_26, hp_27, hp_28, hp_29, hp_30, hp_31, hp_32, hp_33, hp_34, hp_35, hp_36, hp_37, hp_38, hp_39, hp_40, hp_41, hp_42, hp_43, hp_44, hp_45, hp_46, hp_47, hp_48, hp_49, hf0_5, hf0_6, hf0_7, hf1_1, hf3_0, hf3_2, hf3_6, hf10_0, hf10_2, hf10_6, hf17_3, hf17_4, hf20_3, hf20_4, hf30_0, hf30_1, hf30_3, hf30_7, hf30_11, hf30_12, hf30_20, hf30_22, hf30_23, hf30_24, hf30_25, hf30_21, hf30_31, upd_su, updL_su, i3.1, su_self]
  exact hQ _ (eqx_su 30 _ rfl eqx_rfl) ⟨mD_sim ⟨rfl, rfl, rfl, rfl, rfl, rfl, rfl, rfl, rfl, rfl⟩ i1, mS_sim ⟨rfl, rfl, rfl, rfl, rfl, rfl, rfl, rfl, rfl, rfl⟩ i2, ⟨rfl, fun i hi => absurd hi (Nat.not_lt_zero _)⟩, i4, i5, i6, i7⟩
theorem R_blank (hR : RS c S) : RS c (N_blank S) := by
  obtain ⟨a1, a2, a3, a4, a5, a6, a7, a8, a9⟩ := hR
  exact ⟨dR_sim ⟨rfl, rfl, rfl, rfl, rfl, rfl, rfl, rfl, rfl, rfl⟩ a1, nR_sim ⟨rfl, rfl, rfl, rfl, rfl, rfl, rfl, rfl, rfl, rfl⟩ a2, Nat.zero_le _, fun i hi => absurd hi (Nat.not_lt_zero _), a5, a6, a7, a8, fun h => ⟨(a9 h).1, (a9 h).2.1, dR_sim ⟨rfl, rfl, rfl, rfl, rfl, rfl, rfl, rfl, rfl, rfl⟩ (a9 h).2.2.1, nR_sim ⟨rfl, rfl, rfl, rfl, rfl, rfl, rfl, rfl, rfl, rfl⟩ (a9 h).2.2.2⟩⟩
-- oil
def A_oil (S : Nat → Nat → Nat) (x y : Int32) : Int32 := cond (inb x (S 0 1)) (cond (inb y 4) (nI (S 4 x.toNatClampNeg)) (-102)) (-101)
def N_oil (S : Nat → Nat → Nat) (x y : Int32) : Nat → Nat → Nat := cond (inb x (S 0 1)) (cond (inb y 4) (su S 4 (su (S 4) x.toNatClampNeg y.toNatClampNeg)) S) S
set_option maxRecDepth 100000 in
set_option maxHeartbeats 4000000 in
theorem f_oil (hC : sm_C 2 CT) (hR : RS c S) (hI : Ic S G) {x y : Int32} (hQ : ∀ G', eqx clsP G G' → Ic (N_oil S x y) G' → Q (some (.int (A_oil S x y))) (hp G' L)) : CT 50 [.ref 0, .int x, .int y] (hp G L) Q := by
  obtain ⟨i1, i2, i3, i4, i5⟩ := id hI
  obtain ⟨hdR, hnR, -⟩ := id hR
  obtain ⟨r1, r2, r3, r4⟩ := id hdR
  obtain ⟨e1, e2, e3, e4, e5, e6, e7⟩ := id i1
  refine sm_meth hC [some (.ref 0), some (.int x), some (.int y), none] rfl rfl rfl ?_
  refine sm_body [] 60 sm_k50 (fun CT K hC hK => ?_)
  unfold A_oil N_oil at hQ
  repeat' first
    | (with_reducible refine And.intro ?_ ?_)
    | ((with_reducible intro h9); first | exact absurd h9 (by decide) | (replace h9 := sb_f h9) | (obtain ⟨j, hj, rfl⟩ := inb_ex (x := x) (sb_t h9)) | (obtain ⟨k, hk, rfl⟩ := inb_ex (x := y) (sb_t h9)) | skip)
    | (with_reducible exact zn_in (by omega) (by decide))
    | (with_reducible exact z01) | (with_reducible exact z11) | (with_reducible exact zb01 _)
    | (with_reducible exact zn_inb (by omega) (by decide))
    | (with_reducible exact zn_ina (by omega) (by decide))
    | (with_reducible exact zn_inc (by omega) (by decide))
    | ((conv => whnf); first | (with_reducible refine And.intro ?_ ?_) | ((with_reducible intro h9); first | exact absurd h9 (by decide) | (replace h9 := sb_f h9) | (obtain ⟨j, hj, rfl⟩ := inb_ex (x := x) (sb_t h9)) | (obtain ⟨k, hk, rfl⟩ := inb_ex (x := y) (sb_t h9)) | skip) | (with_reducible refine hK _ _ _ _ (sm_un ?_)) | (with_reducible refine b_hasVane (hC.mono (by omega)) e2 r2 ?_) | (with_reducible refine b_isTwist (hC.mono (by omega)) ?_))
  · conv => whnf
    have cj : (nI j).toNatClampNeg = j := zn_clI (by omega)
    have ck : (nI k).toNatClampNeg = k := zn_clI (by omega)
    simp only [inb_n hj (show S 0 1 < 2 ^ 31 by omega), inb_n hk (show 4 < 2 ^ 31 by decide), cj, ck, cond_true] at hQ
    simp only [hp_0, hp_1, hp_2, hp_3, hp_4, hp_5, hp_6, hp_7, hp_8, hp_9, hp_10, hp_11, hp_12, hp_13, hp_14, hp_15, hp_16, hp_17, hp_18, hp_19, hp_20, hp_22, hp_23, hp_24, hp_25, hp_26, hp_27, hp_28, hp_29, hp_30, hp_31, hp_32, hp_33, hp_34, hp_35, hp_36, hp_37, hp_38, hp_39, hp_40, hp_41, hp_42, hp_43, hp_44, hp_45, hp_46, hp_47, hp_48, hp_49, hf0_5, hf0_6, hf0_7, hf1_1, hf3_0, hf3_2, hf3_6, hf10_0, hf10_2, hf10_6, hf17_3, hf17_4, hf20_3, hf20_4, hf30_0, hf30_1, hf30_3, hf30_7, hf30_11, hf30_12, hf30_20, hf30_22, hf30_23, hf30_24, hf30_25, hf30_21, hf30_31, upd_su, updL_su, cj, (e5 j hj).2.2]
    refine hQ _ (eqx_su 17 _ rfl (eqx_su 7 _ rfl eqx_rfl)) ⟨⟨e1, e2, e3, e4, fun i hi => ?_, e6, e7⟩, i2, i3, Or.inr rfl, fun h => ?_⟩
    · refine ⟨(e5 i hi).1, (e5 i hi).2.1, ?_⟩
      show su (G 7) j (nI k) i = nI (su (S 4) j k i)
      rw [su_if, su_if]
      split
      · rfl
      · exact (e5 i hi).2.2
    · exact hF_sim ⟨rfl, rfl, rfl, rfl, rfl, rfl, rfl, rfl, rfl, rfl⟩ (i5 h)
  · simp only [inb_n hj (show S 0 1 < 2 ^ 31 by omega), ‹inb y 4 = false›, cond_true, cond_false] at hQ
    exact hQ G eqx_rfl hI
  · simp only [‹inb x (S 0 1) = false›, cond_false] at hQ
    exact hQ G eqx_rfl hI
set_option maxRecDepth 100000 in
set_option maxHeartbeats 4000000 in
theorem g_oil (hC : sm_C 3 CT) (hR : RS c S) (hI : Im c S G) {x y : Int32} (hQ : ∀ G', eqx mdlP G G' → Im c (N_oil S x y) G' → Q (some (.int (A_oil S x y))) (hp G' L)) : CT 98 [.ref 30, .int x, .int y] (hp G L) Q := by
  obtain ⟨i1, i2, i3, i4, i5, i6, i7⟩ := id hI
  obtain ⟨hdR, hnR, -⟩ := id hR
  obtain ⟨r1, r2, r3, r4⟩ := id hdR
  obtain ⟨e1, e2, e3, e4⟩ := id i1
  refine sm_meth hC [some (.ref 30), some (.int x), some (.int y), none] rfl rfl rfl ?_
  refine sm_body [] 60 sm_k98 (fun CT K hC hK => ?_)
  unfold A_oil N_oil at hQ
  repeat' first
    | (with_reducible refine And.intro ?_ ?_)
    | ((with_reducible intro h9); first | exact absurd h9 (by decide) | (replace h9 := sb_f h9) | (obtain ⟨j, hj, rfl⟩ := inb_ex (x := x) (sb_t h9)) | (obtain ⟨k, hk, rfl⟩ := inb_ex (x := y) (sb_t h9)) | skip)
    | (with_reducible exact zn_in (by omega) (by decide))
    | (with_reducible exact z01) | (with_reducible exact z11) | (with_reducible exact zb01 _)
    | (with_reducible exact zn_inb (by omega) (by decide))
    | (with_reducible exact zn_ina (by omega) (by decide))
    | (with_reducible exact zn_inc (by omega) (by decide))
    | ((conv => whnf); first | (with_reducible refine And.intro ?_ ?_) | ((with_reducible intro h9); first | exact absurd h9 (by decide) | (replace h9 := sb_f h9) | (obtain ⟨j, hj, rfl⟩ := inb_ex (x := x) (sb_t h9)) | (obtain ⟨k, hk, rfl⟩ := inb_ex (x := y) (sb_t h9)) | skip) | (with_reducible refine hK _ _ _ _ (sm_un ?_)) | (with_reducible refine b_isVane (hC.mono (by omega)) e2 r2 ?_) | (with_reducible refine b_isQuarterM (hC.mono (by omega)) ?_))
  · conv => whnf
    have cj : (nI j).toNatClampNeg = j := zn_clI (by omega)
    have ck : (nI k).toNatClampNeg = k := zn_clI (by omega)
    simp only [inb_n hj (show S 0 1 < 2 ^ 31 by omega), inb_n hk (show 4 < 2 ^ 31 by decide), cj, ck, cond_true] at hQ
    simp only [hp_0, hp_1, hp_2, hp_3, hp_4, hp_5, hp_6, hp_7, hp_8, hp_9, hp_10, hp_11, hp_12, hp_13, hp_14, hp_15, hp_16, hp_17, hp_18, hp_19, hp_20, hp_22, hp_23, hp_24, hp_25, hp_26, hp_27, hp_28, hp_29, hp_30, hp_31, hp_32, hp_33, hp_34, hp_35, hp_36, hp_37, hp_38, hp_39, hp_40, hp_41, hp_42, hp_43, hp_44, hp_45, hp_46, hp_47, hp_48, hp_49, hf0_5, hf0_6, hf0_7, hf1_1, hf3_0, hf3_2, hf3_6, hf10_0, hf10_2, hf10_6, hf17_3, hf17_4, hf20_3, hf20_4, hf30_0, hf30_1, hf30_3, hf30_7, hf30_11, hf30_12, hf30_20, hf30_22, hf30_23, hf30_24, hf30_25, hf30_21, hf30_31, upd_su, updL_su, cj, (e4 j hj).2.2]
    refine hQ _ (eqx_su 34 _ rfl eqx_rfl) ⟨⟨e1, e2, e3, fun i hi => ?_⟩, i2, i3, i4, i5, i6, i7⟩
    refine ⟨(e4 i hi).1, (e4 i hi).2.1, ?_⟩
    show su (G 34) j (nI k) i = nI (su (S 4) j k i)
    rw [su_if, su_if]
    split
    · rfl
    · exact (e4 i hi).2.2
  · simp only [inb_n hj (show S 0 1 < 2 ^ 31 by omega), ‹inb y 4 = false›, cond_true, cond_false] at hQ
    exact hQ G eqx_rfl hI
  · simp only [‹inb x (S 0 1) = false›, cond_false] at hQ
    exact hQ G eqx_rfl hI
theorem R_oil (hR : RS c S) (x y : Int32) : RS c (N_oil S x y) := by
  unfold N_oil
  cases hx : inb x (S 0 1) with
  | false => exact hR
  | true =>
    cases hy : inb y 4 with
    | false => exact hR
    | true =>
      obtain ⟨k, hk, rfl⟩ := inb_ex hy
      obtain ⟨a1, a2, a3, a4, a5, a6, a7, a8, a9⟩ := hR
      refine ⟨⟨a1.1, a1.2.1, a1.2.2.1, fun i hi => ⟨(a1.2.2.2 i hi).1, (a1.2.2.2 i hi).2.1, ?_⟩⟩, a2, a3, a4, a5, a6, a7, a8, fun h => ⟨(a9 h).1, (a9 h).2.1, dR_sim ⟨rfl, rfl, rfl, rfl, rfl, rfl, rfl, rfl, rfl, rfl⟩ (a9 h).2.2.1, nR_sim ⟨rfl, rfl, rfl, rfl, rfl, rfl, rfl, rfl, rfl, rfl⟩ (a9 h).2.2.2⟩⟩
      show su (S 4) x.toNatClampNeg (nI k).toNatClampNeg i < 4
      rw [su_if, zn_clI (by omega)]
      split
      · exact hk
      · exact (a1.2.2.2 i hi).2.2
-- wind
def A_wind (S : Nat → Nat → Nat) (x y : Int32) : Int32 := cond (inb x (S 0 0)) (if y = -1 then wI (S 1 x.toNatClampNeg) else cond (inb y 4) (wI (S 1 x.toNatClampNeg)) (-102)) (-101)
def N_wind (S : Nat → Nat → Nat) (x y : Int32) : Nat → Nat → Nat := cond (inb x (S 0 0)) (if y = -1 then su S 1 (su (S 1) x.toNatClampNeg 4) else cond (inb y 4) (su S 1 (su (S 1) x.toNatClampNeg y.toNatClampNeg)) S) S
theorem if_t {α : Type} {p : Prop} [Decidable p] {x y : α} (h : p) : (if p then x else y) = x := by
  split
  · rfl
  · exact absurd h ‹_›
theorem if_f {α : Type} {p : Prop} [Decidable p] {x y : α} (h : ¬ p) : (if p then x else y) = y := by
  split
  · exact absurd ‹_› h
  · rfl
set_option maxRecDepth 100000 in
set_option maxHeartbeats 4000000 in
theorem f_wind (hC : sm_C 2 CT) (hR : RS c S) (hI : Ic S G) {x y : Int32} (hQ : ∀ G', eqx clsP G G' → Ic (N_wind S x y) G' → Q (some (.int (A_wind S x y))) (hp G' L)) : CT 46 [.ref 0, .int x, .int y] (hp G L) Q := by
  obtain ⟨i1, i2, i3, i4, i5⟩ := id hI
  obtain ⟨hdR, hnR, -⟩ := id hR
  obtain ⟨r1, r2, r3, r4⟩ := id hdR
  obtain ⟨e1, e2, e3, e4, e5, e6, e7⟩ := id i1
  refine sm_meth hC [some (.ref 0), some (.int x), some (.int y), none] rfl rfl rfl ?_
  refine sm_body [] 60 sm_k46 (fun CT K hC hK => ?_)
  unfold A_wind N_wind at hQ
  have key : ∀ j, j < S 0 0 → ∀ k, k ≤ 4 → ∀ G', G' = su (su G 4 (su (G 4) j (wI k))) 17 (su (G 17) 4 (nI 1)) → eqx clsP G G' ∧ Ic (su S 1 (su (S 1) j k)) G' := by
    intro j hj k hk G' eG
    subst eG
    refine ⟨eqx_su 17 _ rfl (eqx_su 4 _ rfl eqx_rfl), ⟨e1, e2, e3, fun i hi => ?_, e5, e6, e7⟩, i2, i3, Or.inr rfl, fun h => hF_sim ⟨rfl, rfl, rfl, rfl, rfl, rfl, rfl, rfl, rfl, rfl⟩ (i5 h)⟩
    show su (G 4) j (wI k) i = wI (su (S 1) j k i)
    rw [su_if, su_if]
    split
    · rfl
    · exact e4 i hi
  repeat' first
    | (with_reducible refine And.intro ?_ ?_)
    | ((with_reducible intro h9); first | exact absurd h9 (by decide) | (replace h9 := sb_f h9) | ((have h8 := inb_ex (x := x) (sb_t h9); obtain ⟨j, hj, rfl⟩ := h8)) | ((have h8 := inb_ex (x := y) (sb_t h9); obtain ⟨k, hk, rfl⟩ := h8)) | skip)
    | (with_reducible exact zn_in (by omega) (by decide))
    | (with_reducible exact z01) | (with_reducible exact z11) | (with_reducible exact zb01 _)
    | (with_reducible exact zn_inb (by omega) (by decide))
    | (with_reducible exact zn_ina (by omega) (by decide))
    | (with_reducible exact zn_inc (by omega) (by decide))
    | ((conv => whnf); first | (with_reducible refine And.intro ?_ ?_) | ((with_reducible intro h9); first | exact absurd h9 (by decide) | (replace h9 := sb_f h9) | ((have h8 := inb_ex (x := x) (sb_t h9); obtain ⟨j, hj, rfl⟩ := h8)) | ((have h8 := inb_ex (x := y) (sb_t h9); obtain ⟨k, hk, rfl⟩ := h8)) | skip) | (with_reducible refine hK _ _ _ _ (sm_un ?_)) | (with_reducible refine b_hasHour (hC.mono (by omega)) e1 r1 ?_) | (with_reducible refine b_isQuarter (hC.mono (by omega)) ?_))
  · conv => whnf
    have cj : (nI j).toNatClampNeg = j := zn_clI (by omega)
    subst h9
    simp only [inb_n hj (show S 0 0 < 2 ^ 31 by omega), cj, cond_true, if_true] at hQ
    simp only [hp_0, hp_1, hp_2, hp_3, hp_4, hp_5, hp_6, hp_7, hp_8, hp_9, hp_10, hp_11, hp_12, hp_13, hp_14, hp_15, hp_16, hp_17, hp_18, hp_19, hp_20, hp_22, hp_23, hp_24, hp_25, hp_26, hp_27, hp_28, hp_29, hp_30, hp_31, hp_32, hp_33, hp_34, hp_35, hp_36, hp_37, hp_38, hp_39, hp_40, hp_41, hp_42, hp_43, hp_44, hp_45, hp_46, hp_47, hp_48, hp_49, hf0_5, hf0_6, hf0_7, hf1_1, hf3_0, hf3_2, hf3_6, hf10_0, hf10_2, hf10_6, hf17_3, hf17_4, hf20_3, hf20_4, hf30_0, hf30_1, hf30_3, hf30_7, hf30_11, hf30_12, hf30_20, hf30_22, hf30_23, hf30_24, hf30_25, hf30_21, hf30_31, upd_su, updL_su, cj, e4 j hj]
    have e := key j hj 4 (by decide) _ rfl
    exact hQ _ e.1 e.2
  · conv => whnf
    have cj : (nI j).toNatClampNeg = j := zn_clI (by omega)
    have ck : (nI k).toNatClampNeg = k := zn_clI (by omega)
    simp only [inb_n hj (show S 0 0 < 2 ^ 31 by omega), inb_n hk (show 4 < 2 ^ 31 by decide), cj, ck, cond_true, if_f ‹¬ nI k = -1›] at hQ
    simp only [hp_0, hp_1, hp_2, hp_3, hp_4, hp_5, hp_6, hp_7, hp_8, hp_9, hp_10, hp_11, hp_12, hp_13, hp_14, hp_15, hp_16, hp_17, hp_18, hp_19, hp_20, hp_22, hp_23, hp_24, hp_25, hp_26, hp_27, hp_28, hp_29, hp_30, hp_31, hp_32, hp_33, hp_34, hp_35, hp_36, hp_37, hp_38, hp_39, hp_40, hp_41, hp_42, hp_43, hp_44, hp_45, hp_46, hp_47, hp_48, hp_49, hf0_5, hf0_6, hf0_7, hf1_1, hf3_0, hf3_2, hf3_6, hf10_0, hf10_2, hf10_6, hf17_3, hf17_4, hf20_3, hf20_4, hf30_0, hf30_1, hf30_3, hf30_7, hf30_11, hf30_12, hf30_20, hf30_22, hf30_23, hf30_24, hf30_25, hf30_21, hf30_31, upd_su, updL_su, cj, e4 j hj]
    have e := key j hj k (by omega) _ rfl
    rw [wI_t hk] at e
    exact hQ _ e.1 e.2
  · simp only [inb_n hj (show S 0 0 < 2 ^ 31 by omega), h9, cond_true, cond_false, if_f ‹¬ y = -1›] at hQ
    exact hQ G eqx_rfl hI
  · simp only [h9, cond_false] at hQ
    exact hQ G eqx_rfl hI
set_option maxRecDepth 100000 in
set_option maxHeartbeats 4000000 in
theorem g_wind (hC : sm_C 3 CT) (hR : RS c S) (hI : Im c S G) {x y : Int32} (hQ : ∀ G', eqx mdlP G G' → Im c (N_wind S x y) G' → Q (some (.int (A_wind S x y))) (hp G' L)) : CT 90 [.ref 30, .int x, .int y] (hp G L) Q := by
  obtain ⟨i1, i2, i3, i4, i5, i6, i7⟩ := id hI
  obtain ⟨hdR, hnR, -⟩ := id hR
  obtain ⟨r1, r2, r3, r4⟩ := id hdR
  obtain ⟨e1, e2, e3, e4⟩ := id i1
  refine sm_meth hC [some (.ref 30), some (.int x), some (.int y), none] rfl rfl rfl ?_
  refine sm_body [] 60 sm_k90 (fun CT K hC hK => ?_)
  unfold A_wind N_wind at hQ
  have key : ∀ j, j < S 0 0 → ∀ k, k ≤ 4 → ∀ G', G' = su G 31 (su (G 31) j (wI k)) → eqx mdlP G G' ∧ Im c (su S 1 (su (S 1) j k)) G' := by
    intro j hj k hk G' eG
    subst eG
    refine ⟨eqx_su 31 _ rfl eqx_rfl, ⟨e1, e2, fun i hi => ?_, e4⟩, i2, i3, i4, i5, i6, i7⟩
    show su (G 31) j (wI k) i = wI (su (S 1) j k i)
    rw [su_if, su_if]
    split
    · rfl
    · exact e3 i hi
  repeat' first
    | (with_reducible refine And.intro ?_ ?_)
    | ((with_reducible intro h9); first | exact absurd h9 (by decide) | (replace h9 := sb_f h9) | ((have h8 := inb_ex (x := x) (sb_t h9); obtain ⟨j, hj, rfl⟩ := h8)) | skip)
    | (with_reducible exact zn_in (by omega) (by decide))
    | (with_reducible exact z01) | (with_reducible exact z11) | (with_reducible exact zb01 _)
    | (with_reducible exact zn_inb (by omega) (by decide))
    | (with_reducible exact zn_ina (by omega) (by decide))
    | (with_reducible exact zn_inc (by omega) (by decide))
    | ((conv => whnf); first | (with_reducible refine And.intro ?_ ?_) | ((with_reducible intro h9); first | exact absurd h9 (by decide) | (replace h9 := sb_f h9) | ((have h8 := inb_ex (x := x) (sb_t h9); obtain ⟨j, hj, rfl⟩ := h8)) | skip) | (with_reducible refine hK _ _ _ _ (sm_un ?_)) | (with_reducible refine b_isHour (hC.mono (by omega)) e1 r1 ?_) | (with_reducible refine s_within (hC.mono (by omega)) (fun hl hr => ?_) (fun hn => ?_)))
  · conv => whnf
    have cj : (nI j).toNatClampNeg = j := zn_clI (by omega)
    by_cases hy : y = -1
    · subst hy
      simp only [inb_n hj (show S 0 0 < 2 ^ 31 by omega), cj, cond_true, if_true] at hQ
      simp only [hp_0, hp_1, hp_2, hp_3, hp_4, hp_5, hp_6, hp_7, hp_8, hp_9, hp_10, hp_11, hp_12, hp_13, hp_14, hp_15, hp_16, hp_17, hp_18, hp_19, hp_20, hp_22, hp_23, hp_24, hp_25, hp_26, hp_27, hp_28, hp_29, hp_30, hp_31, hp_32, hp_33, hp_34, hp_35, hp_36, hp_37, hp_38, hp_39, hp_40, hp_41, hp_42, hp_43, hp_44, hp_45, hp_46, hp_47, hp_48, hp_49, hf0_5, hf0_6, hf0_7, hf1_1, hf3_0, hf3_2, hf3_6, hf10_0, hf10_2, hf10_6, hf17_3, hf17_4, hf20_3, hf20_4, hf30_0, hf30_1, hf30_3, hf30_7, hf30_11, hf30_12, hf30_20, hf30_22, hf30_23, hf30_24, hf30_25, hf30_21, hf30_31, upd_su, updL_su, cj, e3 j hj]
      have e := key j hj 4 (by decide) _ rfl
      exact hQ _ e.1 e.2
    · have h0 : nI 0 ≤ y := by
        rw [zn_le] at hl ⊢
        rw [zn_eq] at hy
        have : (nI 0).toInt = 0 := rfl
        have : (-1 : Int32).toInt = -1 := rfl
        omega
      obtain ⟨k, hk, e⟩ := wi_t (x := y) (y := nI 3) (n := 4) (by decide) rfl h0 hr
      subst e
      have ck : (nI k).toNatClampNeg = k := zn_clI (by omega)
      simp only [inb_n hj (show S 0 0 < 2 ^ 31 by omega), inb_n hk (show 4 < 2 ^ 31 by decide), cj, ck, cond_true, if_f hy] at hQ
      simp only [hp_0, hp_1, hp_2, hp_3, hp_4, hp_5, hp_6, hp_7, hp_8, hp_9, hp_10, hp_11, hp_12, hp_13, hp_14, hp_15, hp_16, hp_17, hp_18, hp_19, hp_20, hp_22, hp_23, hp_24, hp_25, hp_26, hp_27, hp_28, hp_29, hp_30, hp_31, hp_32, hp_33, hp_34, hp_35, hp_36, hp_37, hp_38, hp_39, hp_40, hp_41, hp_42, hp_43, hp_44, hp_45, hp_46, hp_47, hp_48, hp_49, hf0_5, hf0_6, hf0_7, hf1_1, hf3_0, hf3_2, hf3_6, hf10_0, hf10_2, hf10_6, hf17_3, hf17_4, hf20_3, hf20_4, hf30_0, hf30_1, hf30_3, hf30_7, hf30_11, hf30_12, hf30_20, hf30_22, hf30_23, hf30_24, hf30_25, hf30_21, hf30_31, upd_su, updL_su, cj, e3 j hj]
      have e := key j hj k (by omega) _ rfl
      rw [wI_t hk] at e
      exact hQ _ e.1 e.2
  · have hy : ¬ y = -1 := fun e => by subst e; exact hn ⟨by decide, by decide⟩
    have hb : inb y 4 = false := by
      cases hb : inb y 4 with
      | false => rfl
      | true =>
        obtain ⟨k, hk, e⟩ := inb_ex hb
        subst e
        exact absurd ⟨Int32.le_trans (by decide) (nI_le (Nat.zero_le k) (by omega)), nI_le (by omega) (by decide)⟩ hn
    simp only [inb_n hj (show S 0 0 < 2 ^ 31 by omega), hb, cond_true, cond_false, if_f hy] at hQ
    exact hQ G eqx_rfl hI
  · simp only [h9, cond_false] at hQ
    exact hQ G eqx_rfl hI
theorem R_wind (hR : RS c S) (x y : Int32) : RS c (N_wind S x y) := by
  unfold N_wind
  cases hx : inb x (S 0 0) with
  | false => exact hR
  | true =>
    have key : ∀ k, k ≤ 4 → RS c (su S 1 (su (S 1) x.toNatClampNeg k)) := by
      intro k hk
      obtain ⟨a1, a2, a3, a4, a5, a6, a7, a8, a9⟩ := hR
      refine ⟨⟨a1.1, a1.2.1, fun i hi => ?_, a1.2.2.2⟩, a2, a3, a4, a5, a6, a7, a8, fun h => ⟨(a9 h).1, (a9 h).2.1, dR_sim ⟨rfl, rfl, rfl, rfl, rfl, rfl, rfl, rfl, rfl, rfl⟩ (a9 h).2.2.1, nR_sim ⟨rfl, rfl, rfl, rfl, rfl, rfl, rfl, rfl, rfl, rfl⟩ (a9 h).2.2.2⟩⟩
      show su (S 1) x.toNatClampNeg k i ≤ 4
      rw [su_if]
      split
      · exact hk
      · exact a1.2.2.1 i hi
    simp only [cond_true]
    split
    · exact key 4 (by decide)
    · cases hy : inb y 4 with
      | false => exact hR
      | true =>
        obtain ⟨k, hk, rfl⟩ := inb_ex hy
        exact key _ (by rw [zn_clI (by omega)]; omega)
-- letter
def A_letter (S : Nat → Nat → Nat) (x : Int32) : Int32 := if nI 32 ≤ x ∧ x ≤ nI 126 then (if S 0 3 = 8 then -104 else nI (S 0 3 + 1)) else -102
def N_letter (S : Nat → Nat → Nat) (x : Int32) : Nat → Nat → Nat := if nI 32 ≤ x ∧ x ≤ nI 126 then (if S 0 3 = 8 then S else su (su S 0 (su (S 0) 3 (S 0 3 + 1))) 5 (su (S 5) (S 0 3) x.toNatClampNeg)) else S
theorem x126 {x : Int32} (h1 : nI 32 ≤ x) (h2 : x ≤ nI 126) : ∃ j, 32 ≤ j ∧ j ≤ 126 ∧ x = nI j := by
  obtain ⟨j, hj, e⟩ := wi_t (x := x) (y := nI 126) (n := 127) (by decide) rfl (Int32.le_trans (by decide) h1) h2
  subst e
  have := zle (by decide) (by omega) h1
  exact ⟨j, by omega, by omega, rfl⟩
set_option maxRecDepth 100000 in
set_option maxHeartbeats 4000000 in
theorem s_add (hC : sm_C 1 CT) {n x : Nat} (e : G 1 1 = nI n) (hn : n ≤ 8) (hQ : ∀ G', G' = (if n = 8 then G else su (su G 2 (su (G 2) n (nI x))) 1 (su (G 1) 1 (nI (n + 1)))) → Q (some (.int (if n = 8 then nI 0 else nI 1))) (hp G' L)) : CT 22 [.ref 1, .int (nI x)] (hp G L) Q := by
  refine sm_meth hC [some (.ref 1), some (.int (nI x))] rfl rfl rfl ?_
  refine sm_body [] 60 sm_k22 (fun CT K hC hK => ?_)
  repeat' first
    | (with_reducible refine And.intro ?_ ?_)
    | ((with_reducible intro h9); first | exact absurd h9 (by decide) | ((rw [e] at h9; replace h9 := zle (a := 8) (by omega) (by omega) h9)) | ((rw [e] at h9; replace h9 := znle (a := 8) (by omega) (by omega) h9)) | ((rw [e] at h9; replace h9 := zlt (b := 8) (by omega) (by omega) h9)) | ((rw [e] at h9; replace h9 := znl (b := 8) (by omega) (by omega) h9)) | skip)
    | (with_reducible exact zn_in (by omega) (by decide))
    | (with_reducible exact z01) | (with_reducible exact z11) | (with_reducible exact zb01 _)
    | (with_reducible exact zn_inb (by omega) (by decide))
    | (with_reducible exact zn_ina (by omega) (by decide))
    | (with_reducible exact zn_inc (by omega) (by decide))
    | ((conv => whnf); first | (with_reducible refine And.intro ?_ ?_) | ((with_reducible intro h9); first | exact absurd h9 (by decide) | ((rw [e] at h9; replace h9 := zle (a := 8) (by omega) (by omega) h9)) | ((rw [e] at h9; replace h9 := znle (a := 8) (by omega) (by omega) h9)) | ((rw [e] at h9; replace h9 := zlt (b := 8) (by omega) (by omega) h9)) | ((rw [e] at h9; replace h9 := znl (b := 8) (by omega) (by omega) h9)) | skip) | (with_reducible refine hK _ _ _ _ (sm_un ?_)) | ((rw [e]; exact zn_in (by omega) (by decide))))
  · have h8 : ¬ n = 8 := by omega
    have cn : (nI n).toNatClampNeg = n := zn_clI (by omega)
    have e9 := hQ _ rfl
    rw [if_f h8, if_f h8] at e9
    simp only [hp_0, hp_1, hp_2, hp_3, hp_4, hp_5, hp_6, hp_7, hp_8, hp_9, hp_10, hp_11, hp_12, hp_13, hp_14, hp_15, hp_16, hp_17, hp_18, hp_19, hp_20, hp_22, hp_23, hp_24, hp_25, hp_26, hp_27, hp_28, hp_29, hp_30, hp_31, hp_32, hp_33, hp_34, hp_35, hp_36, hp_37, hp_38, hp_39, hp_40, hp_41, hp_42, hp_43, hp_44, hp_45, hp_46, hp_47, hp_48, hp_49, hf0_5, hf0_6, hf0_7, hf1_1, hf3_0, hf3_2, hf3_6, hf10_0, hf10_2, hf10_6, hf17_3, hf17_4, hf20_3, hf20_4, hf30_0, hf30_1, hf30_3, hf30_7, hf30_11, hf30_12, hf30_20, hf30_22, hf30_23, hf30_24, hf30_25, hf30_21, hf30_31, upd_su, updL_su, e, cn, nI_add]
    exact e9
  · have h8 : n = 8 := by omega
    have e := hQ _ rfl
    rw [if_t h8, if_t h8] at e
    exact e
theorem code_i8 : ∀ j, j ≤ 126 → (nI j).toInt8.toInt32 = nI j ∧ vp_nar .byte (nI j).toInt8.toInt32 = nI j := by decide +kernel
set_option maxRecDepth 100000 in
set_option maxHeartbeats 4000000 in
theorem f_letter (hC : sm_C 2 CT) (hR : RS c S) (hI : Ic S G) {x : Int32} (hQ : ∀ G', eqx clsP G G' → Ic (N_letter S x) G' → Q (some (.int (A_letter S x))) (hp G' L)) : CT 42 [.ref 0, .int x] (hp G L) Q := by
  obtain ⟨i1, i2, i3, i4, i5⟩ := id hI
  have r8 := hR.2.2.1
  refine sm_meth hC [some (.ref 0), some (.int x)] rfl rfl rfl ?_
  unfold A_letter N_letter at hQ
  by_cases hx : nI 32 ≤ x ∧ x ≤ nI 126
  · obtain ⟨j, h1, h2, rfl⟩ := x126 hx.1 hx.2
    simp only [if_t hx, zn_clI (show j < 2 ^ 31 by omega)] at hQ
    refine sm_body [] 60 sm_k42 (fun CT K hC hK => ?_)
    repeat' first
      | (with_reducible refine And.intro ?_ ?_)
      | ((with_reducible intro h9); first | exact absurd h9 (by decide) | (exact absurd (Int32.not_lt.mpr hx.1) (Decidable.not_not.mpr h9)) | (exact absurd hx.2 (Int32.not_le.mpr h9)) | skip)
      | (with_reducible exact zn_in (by omega) (by decide))
      | (with_reducible exact z01) | (with_reducible exact z11) | (with_reducible exact zb01 _)
      | (with_reducible exact zn_inb (by omega) (by decide))
      | (with_reducible exact zn_ina (by omega) (by decide))
      | (with_reducible exact zn_inc (by omega) (by decide))
      | ((conv => whnf); first | (with_reducible refine And.intro ?_ ?_) | ((with_reducible intro h9); first | exact absurd h9 (by decide) | (exact absurd (Int32.not_lt.mpr hx.1) (Decidable.not_not.mpr h9)) | (exact absurd hx.2 (Int32.not_le.mpr h9)) | skip) | (with_reducible refine hK _ _ _ _ (sm_un ?_)) | (refine s_add hC i2.1 r8 (fun G' eG => ?_)))
    · have h8 : S 0 3 = 8 := by
        by_cases h : S 0 3 = 8
        · exact h
        · rw [if_f h] at h9; exact absurd h9 (by decide)
      simp only [if_t h8] at hQ eG
      subst eG
      exact hQ _ eqx_rfl hI
    · have h8 : ¬ S 0 3 = 8 := by
        intro h
        rw [if_t h] at h9
        exact h9 rfl
      simp only [if_f h8] at hQ eG
      subst eG
      refine hQ _ (eqx_su 1 _ rfl (eqx_su 2 _ rfl eqx_rfl)) ⟨hF_sim ⟨rfl, rfl, rfl, rfl, rfl, rfl, rfl, rfl, rfl, rfl⟩ i1, ⟨rfl, fun i hi => ?_⟩, i3, (by have e : cT (su (su S 0 (su (S 0) 3 (S 0 3 + 1))) 5 (su (S 5) (S 0 3) j)) G := cT_sim (S := S) (S' := su (su S 0 (su (S 0) 3 (S 0 3 + 1))) 5 (su (S 5) (S 0 3) j)) ⟨rfl, rfl, rfl, rfl, rfl, rfl, rfl, rfl, rfl, rfl⟩ i4; exact e), fun h => hF_sim ⟨rfl, rfl, rfl, rfl, rfl, rfl, rfl, rfl, rfl, rfl⟩ (i5 h)⟩
      show su (G 2) (S 0 3) (nI j) i = nI (su (S 5) (S 0 3) j i)
      have hi : i < S 0 3 + 1 := hi
      rw [su_if, su_if]
      split
      · rfl
      · exact i2.2 i (by omega)
    · exact absurd hx.2 h9
  · simp only [if_f hx] at hQ
    refine sm_body [] 60 sm_k42 (fun CT K hC hK => ?_)
    repeat' first
      | (with_reducible refine And.intro ?_ ?_)
      | ((with_reducible intro h9); first | exact absurd h9 (by decide) | ((have h8 : x ≤ nI 126 := h9; exact absurd ⟨Int32.not_lt.mp ‹¬ x < nI 32›, h8⟩ hx)) | skip)
      | (with_reducible exact zn_in (by omega) (by decide))
      | (with_reducible exact z01) | (with_reducible exact z11) | (with_reducible exact zb01 _)
      | (with_reducible exact zn_inb (by omega) (by decide))
      | (with_reducible exact zn_ina (by omega) (by decide))
      | (with_reducible exact zn_inc (by omega) (by decide))
      | ((conv => whnf); first | (with_reducible refine And.intro ?_ ?_) | ((with_reducible intro h9); first | exact absurd h9 (by decide) | ((have h8 : x ≤ nI 126 := h9; exact absurd ⟨Int32.not_lt.mp ‹¬ x < nI 32›, h8⟩ hx)) | skip) | (with_reducible refine hK _ _ _ _ (sm_un ?_)))
    all_goals exact hQ G eqx_rfl hI
set_option maxRecDepth 100000 in
set_option maxHeartbeats 4000000 in
theorem g_letter (hC : sm_C 2 CT) (hR : RS c S) (hI : Im c S G) {x : Int32} (hQ : ∀ G', eqx mdlP G G' → Im c (N_letter S x) G' → Q (some (.int (A_letter S x))) (hp G' L)) : CT 82 [.ref 30, .int x] (hp G L) Q := by
  obtain ⟨i1, i2, i3, i4, i5, i6, i7⟩ := id hI
  have r8 := hR.2.2.1
  refine sm_meth hC [some (.ref 30), some (.int x)] rfl rfl rfl ?_
  refine sm_body [] 60 sm_k82 (fun CT K hC hK => ?_)
  unfold A_letter N_letter at hQ
  have cn : (nI (S 0 3)).toNatClampNeg = S 0 3 := zn_clI (by omega)
  repeat' first
    | (with_reducible refine And.intro ?_ ?_)
    | ((with_reducible intro h9); first | exact absurd h9 (by decide) | ((rw [i3.1] at h9; replace h9 := zeq (by omega) (by omega) h9)) | ((rw [i3.1] at h9; replace h9 := zneq h9)) | skip)
    | (with_reducible exact zn_in (by omega) (by decide))
    | (with_reducible exact z01) | (with_reducible exact z11) | (with_reducible exact zb01 _)
    | (with_reducible exact zn_inb (by omega) (by decide))
    | (with_reducible exact zn_ina (by omega) (by decide))
    | (with_reducible exact zn_inc (by omega) (by decide))
    | ((conv => whnf); first | (with_reducible refine And.intro ?_ ?_) | ((with_reducible intro h9); first | exact absurd h9 (by decide) | ((rw [i3.1] at h9; replace h9 := zeq (by omega) (by omega) h9)) | ((rw [i3.1] at h9; replace h9 := zneq h9)) | skip) | (with_reducible refine hK _ _ _ _ (sm_un ?_)) | (with_reducible refine s_within (hC.mono (by omega)) (fun hl hr => ?_) (fun hn => ?_)) | ((rw [i3.1]; exact zn_in (by omega) (by decide))))
  · obtain ⟨j, h1, h2, rfl⟩ := x126 hl hr
    simp only [if_t (show nI 32 ≤ nI j ∧ nI j ≤ nI 126 from ⟨hl, hr⟩), if_f ‹S 0 3 ≠ 8›, zn_clI (show j < 2 ^ 31 by omega)] at hQ
    conv => whnf
    simp only [hp_0, hp_1, hp_2, hp_3, hp_4, hp_5, hp_6, hp_7, hp_8, hp_9, hp_10, hp_11, hp_12, hp_13, hp_14, hp_15, hp_16, hp_17, hp_18, hp_19, hp_20, hp_22, hp_23, hp_24, hp_25, hp_26, hp_27, hp_28, hp_29, hp_30, hp_31, hp_32, hp_33, hp_34, hp_35, hp_36, hp_37, hp_38, hp_39, hp_40, hp_41, hp_42, hp_43, hp_44, hp_45, hp_46, hp_47, hp_48, hp_49, hf0_5, hf0_6, hf0_7, hf1_1, hf3_0, hf3_2, hf3_6, hf10_0, hf10_2, hf10_6, hf17_3, hf17_4, hf20_3, hf20_4, hf30_0, hf30_1, hf30_3, hf30_7, hf30_11, hf30_12, hf30_20, hf30_22, hf30_23, hf30_24, hf30_25, hf30_21, hf30_31, upd_su, updL_su, i3.1, cn, nI_add, (code_i8 j h2).2]
    refine hQ _ (eqx_su 30 _ rfl (eqx_su 38 _ rfl eqx_rfl)) ⟨mD_sim ⟨rfl, rfl, rfl, rfl, rfl, rfl, rfl, rfl, rfl, rfl⟩ i1, mS_sim ⟨rfl, rfl, rfl, rfl, rfl, rfl, rfl, rfl, rfl, rfl⟩ i2, ⟨rfl, fun i hi => ?_⟩, i4, i5, i6, i7⟩
    show su (G 38) (S 0 3) (nI j) i = nI (su (S 5) (S 0 3) j i)
    have hi : i < S 0 3 + 1 := hi
    rw [su_if, su_if]
    split
    · rfl
    · exact i3.2 i (by omega)
  · simp only [if_t (show nI 32 ≤ x ∧ x ≤ nI 126 from ⟨hl, hr⟩), if_t ‹S 0 3 = 8›] at hQ
    exact hQ G eqx_rfl hI
  · simp only [if_f hn] at hQ
    exact hQ G eqx_rfl hI
theorem R_letter (hR : RS c S) (x : Int32) : RS c (N_letter S x) := by
  unfold N_letter
  split
  · split
    · exact hR
    · rename_i hx h8
      obtain ⟨j, h1, h2, rfl⟩ := x126 hx.1 hx.2
      obtain ⟨a1, a2, a3, a4, a5, a6, a7, a8, a9⟩ := hR
      refine ⟨dR_sim ⟨rfl, rfl, rfl, rfl, rfl, rfl, rfl, rfl, rfl, rfl⟩ a1, nR_sim ⟨rfl, rfl, rfl, rfl, rfl, rfl, rfl, rfl, rfl, rfl⟩ a2, ?_, fun i hi => ?_, a5, a6, a7, a8, fun h => ⟨(a9 h).1, (a9 h).2.1, dR_sim ⟨rfl, rfl, rfl, rfl, rfl, rfl, rfl, rfl, rfl, rfl⟩ (a9 h).2.2.1, nR_sim ⟨rfl, rfl, rfl, rfl, rfl, rfl, rfl, rfl, rfl, rfl⟩ (a9 h).2.2.2⟩⟩
      · show S 0 3 + 1 ≤ 8
        omega
      · have hi : i < S 0 3 + 1 := hi
        show 32 ≤ su (S 5) (S 0 3) (nI j).toNatClampNeg i ∧ su (S 5) (S 0 3) (nI j).toNatClampNeg i ≤ 126
        rw [su_if, zn_clI (by omega)]
        split
        · omega
        · exact a4 i (by omega)
  · exact hR
end MOVES
end
section
/-! Calls that change the state: forget, see, vane, image, restore, day. -/
section MOVES2
variable {CT : sm_CT} {G : Nat → Nat → Int32} {L : Nat → Nat → Int64} {Q : sm_Q} {S : Nat → Nat → Nat} {c : Nat} {h : sm_H}
set_option maxRecDepth 100000 in
set_option maxHeartbeats 4000000 in
theorem s_clearSeen (hC : sm_C 1 CT) (hQ : ∀ x y, (∀ v, v < 4 → x v = nI 0) → (∀ i, i < 24 → y i = nI 15) → Q none (hp (su (su (su G 3 (su (G 3) 6 (nI 0))) 8 x) 9 y) L)) : CT 6 [.ref 3] (hp G L) Q := by
  refine sm_meth hC [some (.ref 3), none] rfl rfl rfl ?_
  have lo2 : ∀ i, i ≤ 24 → ∀ x y, (∀ v, v < 4 → x v = nI 0) → (∀ j, j < i → y j = nI 15) → sm_Wk 0 6 Q none 27 [some (.ref 3), some (.int (nI i))] [] (hp (su (su (su G 3 (su (G 3) 6 (nI 0))) 8 x) 9 y) L) := by
    refine up _ (fun i hi ih x y hx hy => ?_)
    refine sm_body [27] 60 sm_k6 (fun CT K hC hK => ?_)
    repeat' first
      | (with_reducible refine And.intro ?_ ?_)
      | ((with_reducible intro h9); first | exact absurd h9 (by decide) | (replace h9 := zle (a := 24) (by omega) (by omega) h9) | (replace h9 := znle (a := 24) (by omega) (by omega) h9) | skip)
      | (with_reducible exact zn_in (by omega) (by decide))
      | (with_reducible exact z01) | (with_reducible exact z11) | (with_reducible exact zb01 _)
      | (with_reducible exact zn_inb (by omega) (by decide))
      | (with_reducible exact zn_ina (by omega) (by decide))
      | (with_reducible exact zn_inc (by omega) (by decide))
      | ((conv => whnf); first | (with_reducible refine And.intro ?_ ?_) | ((with_reducible intro h9); first | exact absurd h9 (by decide) | (replace h9 := zle (a := 24) (by omega) (by omega) h9) | (replace h9 := znle (a := 24) (by omega) (by omega) h9) | skip) | (with_reducible refine hK _ _ _ _ (sm_un ?_)))
    · exact hQ x y hx (fun j hj => hy j (by omega))
    · simp only [hp_0, hp_1, hp_2, hp_3, hp_4, hp_5, hp_6, hp_7, hp_8, hp_9, hp_10, hp_11, hp_12, hp_13, hp_14, hp_15, hp_16, hp_17, hp_18, hp_19, hp_20, hp_22, hp_23, hp_24, hp_25, hp_26, hp_27, hp_28, hp_29, hp_30, hp_31, hp_32, hp_33, hp_34, hp_35, hp_36, hp_37, hp_38, hp_39, hp_40, hp_41, hp_42, hp_43, hp_44, hp_45, hp_46, hp_47, hp_48, hp_49, hf0_5, hf0_6, hf0_7, hf1_1, hf3_0, hf3_2, hf3_6, hf10_0, hf10_2, hf10_6, hf17_3, hf17_4, hf20_3, hf20_4, hf30_0, hf30_1, hf30_3, hf30_7, hf30_11, hf30_12, hf30_20, hf30_22, hf30_23, hf30_24, hf30_25, hf30_21, hf30_31, upd_su, updL_su, nI_add, zn_clI (show i < 2 ^ 31 by omega), su_eq, su_su]
      refine ⟨⟨ih ‹_› _ _ hx (fun j hj => ?_)⟩⟩
      rw [su_if]
      split
      · rfl
      · exact hy j (by omega)
  have lo : ∀ i, i ≤ 4 → ∀ x, (∀ j, j < i → x j = nI 0) → sm_Wk 0 6 Q none 7 [some (.ref 3), some (.int (nI i))] [] (hp (su (su G 3 (su (G 3) 6 (nI 0))) 8 x) L) := by
    refine up _ (fun i hi ih x hx => ?_)
    refine sm_body [7, 27] 60 sm_k6 (fun CT K hC hK => ?_)
    repeat' first
      | (with_reducible refine And.intro ?_ ?_)
      | ((with_reducible intro h9); first | exact absurd h9 (by decide) | (replace h9 := zle (a := 4) (by omega) (by omega) h9) | (replace h9 := znle (a := 4) (by omega) (by omega) h9) | skip)
      | (with_reducible exact zn_in (by omega) (by decide))
      | (with_reducible exact z01) | (with_reducible exact z11) | (with_reducible exact zb01 _)
      | (with_reducible exact zn_inb (by omega) (by decide))
      | (with_reducible exact zn_ina (by omega) (by decide))
      | (with_reducible exact zn_inc (by omega) (by decide))
      | ((conv => whnf); first | (with_reducible refine And.intro ?_ ?_) | ((with_reducible intro h9); first | exact absurd h9 (by decide) | (replace h9 := zle (a := 4) (by omega) (by omega) h9) | (replace h9 := znle (a := 4) (by omega) (by omega) h9) | skip) | (with_reducible refine hK _ _ _ _ (sm_un ?_)))
    · have e := lo2 0 (Nat.zero_le _) x (G 9) (fun v hv => hx v (by omega)) (fun j hj => absurd hj (Nat.not_lt_zero _))
      have eG : su (su (su G 3 (su (G 3) 6 (nI 0))) 8 x) 9 (G 9) = su (su G 3 (su (G 3) 6 (nI 0))) 8 x := su_self (su (su G 3 (su (G 3) 6 (nI 0))) 8 x) 9
      rw [eG] at e
      exact ⟨⟨e⟩⟩
    · simp only [hp_0, hp_1, hp_2, hp_3, hp_4, hp_5, hp_6, hp_7, hp_8, hp_9, hp_10, hp_11, hp_12, hp_13, hp_14, hp_15, hp_16, hp_17, hp_18, hp_19, hp_20, hp_22, hp_23, hp_24, hp_25, hp_26, hp_27, hp_28, hp_29, hp_30, hp_31, hp_32, hp_33, hp_34, hp_35, hp_36, hp_37, hp_38, hp_39, hp_40, hp_41, hp_42, hp_43, hp_44, hp_45, hp_46, hp_47, hp_48, hp_49, hf0_5, hf0_6, hf0_7, hf1_1, hf3_0, hf3_2, hf3_6, hf10_0, hf10_2, hf10_6, hf17_3, hf17_4, hf20_3, hf20_4, hf30_0, hf30_1, hf30_3, hf30_7, hf30_11, hf30_12, hf30_20, hf30_22, hf30_23, hf30_24, hf30_25, hf30_21, hf30_31, upd_su, updL_su, nI_add, zn_clI (show i < 2 ^ 31 by omega), su_eq, su_su]
      refine ⟨⟨ih ‹_› _ (fun j hj => ?_)⟩⟩
      rw [su_if]
      split
      · rfl
      · exact hx j (by omega)
  refine sm_body [7] 60 sm_k6 (fun CT K hC hK => ?_)
  repeat' first
    | (with_reducible refine And.intro ?_ ?_)
    | ((with_reducible intro h9); first | exact absurd h9 (by decide) | skip)
    | (with_reducible exact zn_in (by omega) (by decide))
    | (with_reducible exact z01) | (with_reducible exact z11) | (with_reducible exact zb01 _)
    | (with_reducible exact zn_inb (by omega) (by decide))
    | (with_reducible exact zn_ina (by omega) (by decide))
    | (with_reducible exact zn_inc (by omega) (by decide))
    | ((conv => whnf); first | (with_reducible refine And.intro ?_ ?_) | ((with_reducible intro h9); first | exact absurd h9 (by decide) | skip) | (with_reducible refine hK _ _ _ _ (sm_un ?_)))
  simp only [hp_0, hp_1, hp_2, hp_3, hp_4, hp_5, hp_6, hp_7, hp_8, hp_9, hp_10, hp_11, hp_12, hp_13, hp_14, hp_15, hp_16, hp_17, hp_18, hp_19, hp_20, hp_22, hp_23, hp_24, hp_25, hp_26, hp_27, hp_28, hp_29, hp_30, hp_31, hp_32, hp_33, hp_34, hp_35, hp_36, hp_37, hp_38, hp_39, hp_40, hp_41, hp_42, hp_43, hp_44, hp_45, hp_46, hp_47, hp_48, hp_49, hf0_5, hf0_6, hf0_7, hf1_1, hf3_0, hf3_2, hf3_6, hf10_0, hf10_2, hf10_6, hf17_3, hf17_4, hf20_3, hf20_4, hf30_0, hf30_1, hf30_3, hf30_7, hf30_11, hf30_12, hf30_20, hf30_22, hf30_23, hf30_24, hf30_25, hf30_21, hf30_31, upd_su, updL_su]
  have e := lo 0 (Nat.zero_le _) (G 8) (fun j hj => absurd hj (Nat.not_lt_zero _))
  have eG : su (su G 3 (su (G 3) 6 (nI 0))) 8 (G 8) = su G 3 (su (G 3) 6 (nI 0)) := su_self (su G 3 (su (G 3) 6 (nI 0))) 8
  rw [eG] at e
  exact ⟨⟨e⟩⟩
def N_forget (S : Nat → Nat → Nat) : Nat → Nat → Nat := su S 0 (su (S 0) 2 0)
theorem lf_0 {S : Nat → Nat → Nat} (h : S 0 2 = 0) (v k : Nat) : lf S v k = 15 := by
  have e : ∀ q, ob S v k q = true := fun q => decide_eq_true (fun j hj => by omega)
  unfold lf
  rw [e, e, e, e]
  rfl
theorem so_0 {S : Nat → Nat → Nat} (h : S 0 2 = 0) (v : Nat) : so S v = 0 := by
  unfold so
  rw [h]
  rfl
set_option maxRecDepth 100000 in
set_option maxHeartbeats 4000000 in
theorem f_forget (hC : sm_C 2 CT) (hR : RS c S) (hI : Ic S G) (hQ : ∀ G', eqx clsP G G' → Ic (N_forget S) G' → Q (some (.int (nI (S 0 2)))) (hp G' L)) : CT 52 [.ref 0] (hp G L) Q := by
  obtain ⟨i1, i2, i3, i4, i5⟩ := id hI
  obtain ⟨e1, e2, e3, e4, e5, e6, e7⟩ := id i1
  refine sm_meth hC [some (.ref 0), none] rfl rfl rfl ?_
  refine sm_body [] 60 sm_k52 (fun CT K hC hK => ?_)
  repeat' first
    | (with_reducible refine And.intro ?_ ?_)
    | ((with_reducible intro h9); first | exact absurd h9 (by decide) | skip)
    | (with_reducible exact zn_in (by omega) (by decide))
    | (with_reducible exact z01) | (with_reducible exact z11) | (with_reducible exact zb01 _)
    | (with_reducible exact zn_inb (by omega) (by decide))
    | (with_reducible exact zn_ina (by omega) (by decide))
    | (with_reducible exact zn_inc (by omega) (by decide))
    | ((conv => whnf); first | (with_reducible refine And.intro ?_ ?_) | ((with_reducible intro h9); first | exact absurd h9 (by decide) | skip) | (with_reducible refine hK _ _ _ _ (sm_un ?_)) | (with_reducible refine s_clearSeen (hC.mono (by omega)) (fun x y hx hy => ?_)))
  conv => whnf
  simp only [hp_0, hp_1, hp_2, hp_3, hp_4, hp_5, hp_6, hp_7, hp_8, hp_9, hp_10, hp_11, hp_12, hp_13, hp_14, hp_15, hp_16, hp_17, hp_18, hp_19, hp_20, hp_22, hp_23, hp_24, hp_25, hp_26, hp_27, hp_28, hp_29, hp_30, hp_31, hp_32, hp_33, hp_34, hp_35, hp_36, hp_37, hp_38, hp_39, hp_40, hp_41, hp_42, hp_43, hp_44, hp_45, hp_46, hp_47, hp_48, hp_49, hf0_5, hf0_6, hf0_7, hf1_1, hf3_0, hf3_2, hf3_6, hf10_0, hf10_2, hf10_6, hf17_3, hf17_4, hf20_3, hf20_4, hf30_0, hf30_1, hf30_3, hf30_7, hf30_11, hf30_12, hf30_20, hf30_22, hf30_23, hf30_24, hf30_25, hf30_21, hf30_31, upd_su, updL_su, e3]
  refine hQ _ (eqx_su 17 _ rfl (eqx_su 9 _ rfl (eqx_su 8 _ rfl (eqx_su 3 _ rfl eqx_rfl)))) ⟨⟨e1, e2, rfl, e4, e5, fun v hv => ?_, fun v hv k hk => ?_⟩, i2, i3, Or.inr rfl, fun h => hF_sim ⟨rfl, rfl, rfl, rfl, rfl, rfl, rfl, rfl, rfl, rfl⟩ (i5 h)⟩
  · rw [so_0 rfl]; exact hx v hv
  · rw [lf_0 rfl]; exact hy _ (by omega)
set_option maxRecDepth 100000 in
set_option maxHeartbeats 4000000 in
theorem g_forget (hC : sm_C 1 CT) (hR : RS c S) (hI : Im c S G) (hQ : ∀ G', eqx mdlP G G' → Im c (N_forget S) G' → Q (some (.int (nI (S 0 2)))) (hp G' L)) : CT 100 [.ref 30] (hp G L) Q := by
  obtain ⟨i1, i2, i3, i4, i5, i6, i7⟩ := id hI
  refine sm_meth hC [some (.ref 30), none] rfl rfl rfl ?_
  refine sm_body [] 60 sm_k100 (fun CT K hC hK => ?_)
  repeat' first
    | (with_reducible refine And.intro ?_ ?_)
    | ((with_reducible intro h9); first | exact absurd h9 (by decide) | skip)
    | (with_reducible exact zn_in (by omega) (by decide))
    | (with_reducible exact z01) | (with_reducible exact z11) | (with_reducible exact zb01 _)
    | (with_reducible exact zn_inb (by omega) (by decide))
    | (with_reducible exact zn_ina (by omega) (by decide))
    | (with_reducible exact zn_inc (by omega) (by decide))
    | ((conv => whnf); first | (with_reducible refine And.intro ?_ ?_) | ((with_reducible intro h9); first | exact absurd h9 (by decide) | skip) | (with_reducible refine hK _ _ _ _ (sm_un ?_)))
  all_goals (conv => whnf)
  simp only [hp_0, hp_1, hp_2, hp_3, hp_4, hp_5, hp_6, hp_7, hp_8, hp_9, hp_10, hp_11, hp_12, hp_13, hp_14, hp_15, hp_16, hp_17, hp_18, hp_19, hp_20, hp_22, hp_23, hp_24, hp_25, hp_26, hp_27, hp_28, hp_29, hp_30, hp_31, hp_32, hp_33, hp_34, hp_35, hp_36, hp_37, hp_38, hp_39, hp_40, hp_41, hp_42, hp_43, hp_44, hp_45, hp_46, hp_47, hp_48, hp_49, hf0_5, hf0_6, hf0_7, hf1_1, hf3_0, hf3_2, hf3_6, hf10_0, hf10_2, hf10_6, hf17_3, hf17_4, hf20_3, hf20_4, hf30_0, hf30_1, hf30_3, hf30_7, hf30_11, hf30_12, hf30_20, hf30_22, hf30_23, hf30_24, hf30_25, hf30_21, hf30_31, upd_su, updL_su, i2.1, su_self]
  exact hQ _ (eqx_su 30 _ rfl eqx_rfl) ⟨i1, ⟨rfl, fun k hk => absurd hk (Nat.not_lt_zero _)⟩, i3, i4, i5, i6, i7⟩
theorem R_forget (hR : RS c S) : RS c (N_forget S) := by
  obtain ⟨a1, a2, a3, a4, a5, a6, a7, a8, a9⟩ := hR
  exact ⟨a1, ⟨Nat.zero_le _, fun k hk => absurd hk (Nat.not_lt_zero _)⟩, a3, a4, a5, a6, a7, a8, fun h => ⟨(a9 h).1, (a9 h).2.1, dR_sim ⟨rfl, rfl, rfl, rfl, rfl, rfl, rfl, rfl, rfl, rfl⟩ (a9 h).2.2.1, nR_sim ⟨rfl, rfl, rfl, rfl, rfl, rfl, rfl, rfl, rfl, rfl⟩ (a9 h).2.2.2⟩⟩
-- see
def okSee (S : Nat → Nat → Nat) (x y z : Int32) : Bool := inb x (S 0 1) && inb y (S 0 0)
def A_see (S : Nat → Nat → Nat) (x y z : Int32) : Int32 := cond (okSee S x y z) (cond (inb z 4) (if S 0 2 = 10 then -104 else nI (S 0 2 + 1)) (-102)) (-101)
def seeS (S : Nat → Nat → Nat) (v k q : Nat) : Nat → Nat → Nat := su (su (su (su S 6 (su (S 6) (S 0 2) v)) 7 (su (S 7) (S 0 2) k)) 8 (su (S 8) (S 0 2) q)) 0 (su (S 0) 2 (S 0 2 + 1))
def N_see (S : Nat → Nat → Nat) (x y z : Int32) : Nat → Nat → Nat := cond (okSee S x y z) (cond (inb z 4) (if S 0 2 = 10 then S else seeS S x.toNatClampNeg y.toNatClampNeg z.toNatClampNeg) S) S
theorem ob_see {S : Nat → Nat → Nat} {v k q a b d : Nat} : ob (seeS S v k q) a b d = (ob S a b d && (!(Nat.beq v a && Nat.beq k b) || Nat.beq q d)) := by
  have e : (∀ j, j < S 0 2 + 1 → su (S 6) (S 0 2) v j = a → su (S 7) (S 0 2) k j = b → su (S 8) (S 0 2) q j = d) ↔ ((∀ j, j < S 0 2 → S 6 j = a → S 7 j = b → S 8 j = d) ∧ (v = a → k = b → q = d)) := by
    constructor
    · intro h
      refine ⟨fun j hj e1 e2 => ?_, fun e1 e2 => ?_⟩
      · have := h j (by omega)
        rw [su_ne _ _ (by omega), su_ne _ _ (by omega), su_ne _ _ (by omega)] at this
        exact this e1 e2
      · have := h (S 0 2) (by omega)
        rw [su_eq, su_eq, su_eq] at this
        exact this e1 e2
    · rintro ⟨h1, h2⟩ j hj
      by_cases e : j = S 0 2
      · subst e
        rw [su_eq, su_eq, su_eq]
        exact h2
      · rw [su_ne _ _ e, su_ne _ _ e, su_ne _ _ e]
        exact h1 j (by omega)
  have e2 : (!(Nat.beq v a && Nat.beq k b) || Nat.beq q d) = decide (v = a → k = b → q = d) := by
    by_cases h1 : v = a <;> by_cases h2 : k = b <;> by_cases h3 : q = d <;> simp [h1, h2, h3, beq_t, beq_f]
  rw [e2]
  show decide (∀ j, j < S 0 2 + 1 → su (S 6) (S 0 2) v j = a → su (S 7) (S 0 2) k j = b → su (S 8) (S 0 2) q j = d) = _
  unfold ob
  rw [← Bool.decide_and]
  exact decide_eq_decide.mpr e
theorem lf_see {S : Nat → Nat → Nat} {v k q a b : Nat} (hq : q < 4) : lf (seeS S v k q) a b = if v = a ∧ k = b then lf S a b &&& 2 ^ q else lf S a b := by
  have e1 : ∀ d, ob (seeS S v k q) a b d = (ob S a b d && (!(Nat.beq v a && Nat.beq k b) || Nat.beq q d)) := fun d => ob_see
  unfold lf
  simp only [e1]
  by_cases h : v = a ∧ k = b
  · rw [if_t h, beq_t h.1, beq_t h.2]
    have : ∀ b0 b1 b2 b3 : Bool, ∀ q, q < 4 → bn (b0 && (!(true && true) || Nat.beq q 0)) + 2 * bn (b1 && (!(true && true) || Nat.beq q 1)) + 4 * bn (b2 && (!(true && true) || Nat.beq q 2)) + 8 * bn (b3 && (!(true && true) || Nat.beq q 3)) = (bn b0 + 2 * bn b1 + 4 * bn b2 + 8 * bn b3) &&& 2 ^ q := by decide
    exact this _ _ _ _ q hq
  · rw [if_f h]
    have : (Nat.beq v a && Nat.beq k b) = false := by
      by_cases h1 : v = a
      · have h2 : k ≠ b := fun e => h ⟨h1, e⟩
        rw [beq_f h2, Bool.and_false]
      · rw [beq_f h1, Bool.false_and]
    simp only [this, Bool.not_false, Bool.true_or, Bool.and_true]
theorem so_see {S : Nat → Nat → Nat} {v k q a : Nat} : so (seeS S v k q) a = so S a + bn (Nat.beq v a) := by
  show ct (fun j => Nat.beq (su (S 6) (S 0 2) v j) a) (S 0 2 + 1) = _
  rw [ct, su_eq]
  congr 1
  exact ct_congr (fun i hi => by rw [su_ne _ _ (by omega)])
end MOVES2
end
section
/-! Calls that change the state: see, vane. -/
theorem i0 {j n : Nat} (h : j < n) (hn : n ≤ 100) : inb (nI j) n = true := inb_n h (by omega)
theorem ci {j n : Nat} (h : j < n) (hn : n ≤ 100) : (nI j).toNatClampNeg = j := zn_clI (by omega)
section MOVES3
variable {CT : sm_CT} {G : Nat → Nat → Int32} {L : Nat → Nat → Int64} {Q : sm_Q} {S : Nat → Nat → Nat} {c : Nat} {h : sm_H}
set_option maxRecDepth 100000 in
set_option maxHeartbeats 4000000 in
theorem s_witness (hC : sm_C 1 CT) {v k q : Nat} (hv : v < 4) (hk : k < 6) (hQ : Q none (hp (su (su (su G 9 (su (G 9) (v * 6 + k) (G 9 (v * 6 + k) &&& sm_shl (nI 1) (nI q)))) 8 (su (G 8) v (G 8 v + nI 1))) 3 (su (G 3) 6 (G 3 6 + nI 1))) L)) : CT 5 [.ref 3, .int (nI v), .int (nI k), .int (nI q)] (hp G L) Q := by
  refine sm_meth hC [some (.ref 3), some (.int (nI v)), some (.int (nI k)), some (.int (nI q))] rfl rfl rfl ?_
  refine sm_body [] 80 sm_k5 (fun CT K hC hK => ?_)
  repeat' first
    | (with_reducible refine And.intro ?_ ?_)
    | ((with_reducible intro h9); first | exact absurd h9 (by decide) | skip)
    | (with_reducible exact zn_in (by omega) (by decide))
    | (with_reducible exact z01) | (with_reducible exact z11) | (with_reducible exact zb01 _)
    | (with_reducible exact zn_inb (by omega) (by decide))
    | (with_reducible exact zn_ina (by omega) (by decide))
    | (with_reducible exact zn_inc (by omega) (by decide))
    | ((conv => whnf); first | (with_reducible refine And.intro ?_ ?_) | ((with_reducible intro h9); first | exact absurd h9 (by decide) | skip) | (with_reducible refine hK _ _ _ _ (sm_un ?_)))
  conv => whnf
  simp only [pk_mul, nI_add, zn_clI (show v * 6 + k < 2 ^ 31 by omega), zn_clI (show v < 2 ^ 31 by omega), hp_0, hp_1, hp_2, hp_3, hp_4, hp_5, hp_6, hp_7, hp_8, hp_9, hp_10, hp_11, hp_12, hp_13, hp_14, hp_15, hp_16, hp_17, hp_18, hp_19, hp_20, hp_22, hp_23, hp_24, hp_25, hp_26, hp_27, hp_28, hp_29, hp_30, hp_31, hp_32, hp_33, hp_34, hp_35, hp_36, hp_37, hp_38, hp_39, hp_40, hp_41, hp_42, hp_43, hp_44, hp_45, hp_46, hp_47, hp_48, hp_49, hf0_5, hf0_6, hf0_7, hf1_1, hf3_0, hf3_2, hf3_6, hf10_0, hf10_2, hf10_6, hf17_3, hf17_4, hf20_3, hf20_4, hf30_0, hf30_1, hf30_3, hf30_7, hf30_11, hf30_12, hf30_20, hf30_22, hf30_23, hf30_24, hf30_25, hf30_21, hf30_31, upd_su, updL_su] at hQ ⊢
  exact hQ
set_option maxRecDepth 100000 in
set_option maxHeartbeats 4000000 in
theorem f_see (hC : sm_C 2 CT) (hR : RS c S) (hI : Ic S G) {x y z : Int32} (hQ : ∀ G', eqx clsP G G' → Ic (N_see S x y z) G' → Q (some (.int (A_see S x y z))) (hp G' L)) : CT 51 [.ref 0, .int x, .int y, .int z] (hp G L) Q := by
  obtain ⟨i1, i2, i3, i4, i5⟩ := id hI
  obtain ⟨hdR, hnR, -⟩ := id hR
  obtain ⟨r1, r2, r3, r4⟩ := id hdR
  have n1 := hnR.1
  obtain ⟨e1, e2, e3, e4, e5, e6, e7⟩ := id i1
  refine sm_meth hC [some (.ref 0), some (.int x), some (.int y), some (.int z)] rfl rfl rfl ?_
  refine sm_body [] 60 sm_k51 (fun CT K hC hK => ?_)
  unfold A_see N_see okSee at hQ
  repeat' first
    | (with_reducible refine And.intro ?_ ?_)
    | ((with_reducible intro h9); first | exact absurd h9 (by decide) | (replace h9 := sb_f h9) | ((have h8 := inb_ex (x := x) (sb_t h9); obtain ⟨j, hj, rfl⟩ := h8)) | ((have h8 := inb_ex (x := y) (sb_t h9); obtain ⟨k, hk, rfl⟩ := h8)) | ((have h8 := inb_ex (x := z) (sb_t h9); obtain ⟨q, hq, rfl⟩ := h8)) | ((rw [e3] at h9; replace h9 := zlt (b := 10) (by omega) (by omega) h9)) | ((rw [e3] at h9; replace h9 := znl (b := 10) (by omega) (by omega) h9)) | skip)
    | (with_reducible exact zn_in (by omega) (by decide))
    | (with_reducible exact z01) | (with_reducible exact z11) | (with_reducible exact zb01 _)
    | (with_reducible exact zn_inb (by omega) (by decide))
    | (with_reducible exact zn_ina (by omega) (by decide))
    | (with_reducible exact zn_inc (by omega) (by decide))
    | ((conv => whnf); first | (with_reducible refine And.intro ?_ ?_) | ((with_reducible intro h9); first | exact absurd h9 (by decide) | (replace h9 := sb_f h9) | ((have h8 := inb_ex (x := x) (sb_t h9); obtain ⟨j, hj, rfl⟩ := h8)) | ((have h8 := inb_ex (x := y) (sb_t h9); obtain ⟨k, hk, rfl⟩ := h8)) | ((have h8 := inb_ex (x := z) (sb_t h9); obtain ⟨q, hq, rfl⟩ := h8)) | ((rw [e3] at h9; replace h9 := zlt (b := 10) (by omega) (by omega) h9)) | ((rw [e3] at h9; replace h9 := znl (b := 10) (by omega) (by omega) h9)) | skip) | (with_reducible refine hK _ _ _ _ (sm_un ?_)) | (with_reducible refine b_hasVane (hC.mono (by omega)) e2 r2 ?_) | (with_reducible refine b_hasHour (hC.mono (by omega)) e1 r1 ?_) | (with_reducible refine b_isQuarter (hC.mono (by omega)) ?_) | (with_reducible refine s_witness (hC.mono (by omega)) (by omega) (by omega) ?_))
  · (simp only [h9, Bool.and_true, Bool.true_and, Bool.false_and, Bool.and_false, cond_true, cond_false] at hQ; exact hQ G eqx_rfl hI)
  · have n10 : ¬ S 0 2 = 10 := by omega
    simp only [i0 hj (show S 0 1 ≤ 100 by omega), i0 hk (show S 0 0 ≤ 100 by omega), i0 hq (show 4 ≤ 100 by decide), ci hj (show S 0 1 ≤ 100 by omega), ci hk (show S 0 0 ≤ 100 by omega), ci hq (show 4 ≤ 100 by decide), if_f n10, Bool.and_true, Bool.true_and, Bool.false_and, Bool.and_false, cond_true, cond_false] at hQ
    conv => whnf
    simp only [hp_0, hp_1, hp_2, hp_3, hp_4, hp_5, hp_6, hp_7, hp_8, hp_9, hp_10, hp_11, hp_12, hp_13, hp_14, hp_15, hp_16, hp_17, hp_18, hp_19, hp_20, hp_22, hp_23, hp_24, hp_25, hp_26, hp_27, hp_28, hp_29, hp_30, hp_31, hp_32, hp_33, hp_34, hp_35, hp_36, hp_37, hp_38, hp_39, hp_40, hp_41, hp_42, hp_43, hp_44, hp_45, hp_46, hp_47, hp_48, hp_49, hf0_5, hf0_6, hf0_7, hf1_1, hf3_0, hf3_2, hf3_6, hf10_0, hf10_2, hf10_6, hf17_3, hf17_4, hf20_3, hf20_4, hf30_0, hf30_1, hf30_3, hf30_7, hf30_11, hf30_12, hf30_20, hf30_22, hf30_23, hf30_24, hf30_25, hf30_21, hf30_31, upd_su, updL_su]
    rw [← nI_add, ← e3] at hQ
    refine hQ _ (eqx_su 17 _ rfl (eqx_su 3 _ rfl (eqx_su 8 _ rfl (eqx_su 9 _ rfl eqx_rfl)))) ⟨⟨e1, e2, ?_, e4, e5, fun v hv => ?_, fun v hv b hb => ?_⟩, i2, i3, Or.inr rfl, fun h => hF_sim ⟨rfl, rfl, rfl, rfl, rfl, rfl, rfl, rfl, rfl, rfl⟩ (i5 h)⟩
    · show G 3 6 + nI 1 = nI (S 0 2 + 1)
      rw [e3, nI_add]
    · show su (G 8) j (G 8 j + nI 1) v = _
      rw [so_see, su_if]
      by_cases hvj : v = j
      · subst hvj
        rw [if_pos rfl, beq_t rfl, e6 v hv, nI_add]
        rfl
      · rw [if_neg hvj, beq_f (Ne.symm hvj), e6 v hv]
        rfl
    · show su (G 9) (j * 6 + k) (G 9 (j * 6 + k) &&& sm_shl (nI 1) (nI q)) (v * 6 + b) = _
      rw [lf_see hq, su_if]
      by_cases hc : j = v ∧ k = b
      · rw [if_t hc, if_t (show v * 6 + b = j * 6 + k by omega), hc.1, hc.2, e7 v hv b hb, zn_shl (by omega), Nat.one_mul, zn_and]
      · rw [if_f hc, if_f (show ¬ v * 6 + b = j * 6 + k by omega), e7 v hv b hb]
  · (simp only [i0 hj (show S 0 1 ≤ 100 by omega), i0 hk (show S 0 0 ≤ 100 by omega), i0 hq (show 4 ≤ 100 by decide), if_t (show S 0 2 = 10 by omega), Bool.and_true, Bool.true_and, Bool.false_and, Bool.and_false, cond_true, cond_false] at hQ; exact hQ G eqx_rfl hI)
  · (simp only [i0 hj (show S 0 1 ≤ 100 by omega), i0 hk (show S 0 0 ≤ 100 by omega), h9, Bool.and_true, Bool.true_and, Bool.false_and, Bool.and_false, cond_true, cond_false] at hQ; exact hQ G eqx_rfl hI)
  · (simp only [i0 hj (show S 0 1 ≤ 100 by omega), h9, Bool.and_true, Bool.true_and, Bool.false_and, Bool.and_false, cond_true, cond_false] at hQ; exact hQ G eqx_rfl hI)
set_option maxRecDepth 100000 in
set_option maxHeartbeats 4000000 in
theorem g_see (hC : sm_C 3 CT) (hR : RS c S) (hI : Im c S G) {x y z : Int32} (hQ : ∀ G', eqx mdlP G G' → Im c (N_see S x y z) G' → Q (some (.int (A_see S x y z))) (hp G' L)) : CT 99 [.ref 30, .int x, .int y, .int z] (hp G L) Q := by
  obtain ⟨i1, i2, i3, i4, i5, i6, i7⟩ := id hI
  obtain ⟨hdR, hnR, -⟩ := id hR
  obtain ⟨r1, r2, r3, r4⟩ := id hdR
  have n1 := hnR.1
  obtain ⟨e1, e2, e3, e4⟩ := id i1
  have cn : (nI (S 0 2)).toNatClampNeg = S 0 2 := zn_clI (by omega)
  refine sm_meth hC [some (.ref 30), some (.int x), some (.int y), some (.int z)] rfl rfl rfl ?_
  refine sm_body [] 60 sm_k99 (fun CT K hC hK => ?_)
  unfold A_see N_see okSee at hQ
  repeat' first
    | (with_reducible refine And.intro ?_ ?_)
    | ((with_reducible intro h9); first | exact absurd h9 (by decide) | (replace h9 := sb_f h9) | ((have h8 := inb_ex (x := x) (sb_t h9); obtain ⟨j, hj, rfl⟩ := h8)) | ((have h8 := inb_ex (x := y) (sb_t h9); obtain ⟨k, hk, rfl⟩ := h8)) | ((have h8 := inb_ex (x := z) (sb_t h9); obtain ⟨q, hq, rfl⟩ := h8)) | ((rw [i2.1] at h9; replace h9 := zeq (by omega) (by omega) h9)) | ((rw [i2.1] at h9; replace h9 := zneq h9)) | skip)
    | (with_reducible exact zn_in (by omega) (by decide))
    | (with_reducible exact z01) | (with_reducible exact z11) | (with_reducible exact zb01 _)
    | (with_reducible exact zn_inb (by omega) (by decide))
    | (with_reducible exact zn_ina (by omega) (by decide))
    | (with_reducible exact zn_inc (by omega) (by decide))
    | ((conv => whnf); first | (with_reducible refine And.intro ?_ ?_) | ((with_reducible intro h9); first | exact absurd h9 (by decide) | (replace h9 := sb_f h9) | ((have h8 := inb_ex (x := x) (sb_t h9); obtain ⟨j, hj, rfl⟩ := h8)) | ((have h8 := inb_ex (x := y) (sb_t h9); obtain ⟨k, hk, rfl⟩ := h8)) | ((have h8 := inb_ex (x := z) (sb_t h9); obtain ⟨q, hq, rfl⟩ := h8)) | ((rw [i2.1] at h9; replace h9 := zeq (by omega) (by omega) h9)) | ((rw [i2.1] at h9; replace h9 := zneq h9)) | skip) | (with_reducible refine hK _ _ _ _ (sm_un ?_)) | (with_reducible refine b_isVane (hC.mono (by omega)) e2 r2 ?_) | (with_reducible refine b_isHour (hC.mono (by omega)) e1 r1 ?_) | (with_reducible refine b_isQuarterM (hC.mono (by omega)) ?_) | ((rw [i2.1]; exact zn_in (by omega) (by decide))))
  · (simp only [h9, Bool.and_true, Bool.true_and, Bool.false_and, Bool.and_false, cond_true, cond_false] at hQ; exact hQ G eqx_rfl hI)
  · simp only [i0 hj (show S 0 1 ≤ 100 by omega), i0 hk (show S 0 0 ≤ 100 by omega), i0 hq (show 4 ≤ 100 by decide), ci hj (show S 0 1 ≤ 100 by omega), ci hk (show S 0 0 ≤ 100 by omega), ci hq (show 4 ≤ 100 by decide), if_f h9, Bool.and_true, Bool.true_and, Bool.false_and, Bool.and_false, cond_true, cond_false] at hQ
    conv => whnf
    simp only [hp_0, hp_1, hp_2, hp_3, hp_4, hp_5, hp_6, hp_7, hp_8, hp_9, hp_10, hp_11, hp_12, hp_13, hp_14, hp_15, hp_16, hp_17, hp_18, hp_19, hp_20, hp_22, hp_23, hp_24, hp_25, hp_26, hp_27, hp_28, hp_29, hp_30, hp_31, hp_32, hp_33, hp_34, hp_35, hp_36, hp_37, hp_38, hp_39, hp_40, hp_41, hp_42, hp_43, hp_44, hp_45, hp_46, hp_47, hp_48, hp_49, hf0_5, hf0_6, hf0_7, hf1_1, hf3_0, hf3_2, hf3_6, hf10_0, hf10_2, hf10_6, hf17_3, hf17_4, hf20_3, hf20_4, hf30_0, hf30_1, hf30_3, hf30_7, hf30_11, hf30_12, hf30_20, hf30_22, hf30_23, hf30_24, hf30_25, hf30_21, hf30_31, upd_su, updL_su, i2.1, cn, nI_add]
    refine hQ _ (eqx_su 30 _ rfl (eqx_su 37 _ rfl (eqx_su 36 _ rfl (eqx_su 35 _ rfl eqx_rfl)))) ⟨i1, ⟨rfl, fun i hi => ?_⟩, i3, i4, i5, i6, i7⟩
    have hi : i < S 0 2 + 1 := hi
    show su (G 35) (S 0 2) (nI j) i = nI (su (S 6) (S 0 2) j i) ∧ su (G 36) (S 0 2) (nI k) i = nI (su (S 7) (S 0 2) k i) ∧ su (G 37) (S 0 2) (nI q) i = nI (su (S 8) (S 0 2) q i)
    simp only [su_if]
    split
    · exact ⟨rfl, rfl, rfl⟩
    · exact i2.2 i (by omega)
  · (simp only [i0 hj (show S 0 1 ≤ 100 by omega), i0 hk (show S 0 0 ≤ 100 by omega), i0 hq (show 4 ≤ 100 by decide), if_t h9, Bool.and_true, Bool.true_and, Bool.false_and, Bool.and_false, cond_true, cond_false] at hQ; exact hQ G eqx_rfl hI)
  · (simp only [i0 hj (show S 0 1 ≤ 100 by omega), i0 hk (show S 0 0 ≤ 100 by omega), h9, Bool.and_true, Bool.true_and, Bool.false_and, Bool.and_false, cond_true, cond_false] at hQ; exact hQ G eqx_rfl hI)
  · (simp only [i0 hj (show S 0 1 ≤ 100 by omega), h9, Bool.and_true, Bool.true_and, Bool.false_and, Bool.and_false, cond_true, cond_false] at hQ; exact hQ G eqx_rfl hI)
theorem R_see (hR : RS c S) (x y z : Int32) : RS c (N_see S x y z) := by
  unfold N_see okSee
  cases hx : inb x (S 0 1) with
  | false => exact hR
  | true =>
    cases hy : inb y (S 0 0) with
    | false => exact hR
    | true =>
      cases hz : inb z 4 with
      | false => exact hR
      | true =>
        simp only [Bool.and_true, cond_true]
        split
        · exact hR
        · rename_i h10
          obtain ⟨j, hj, rfl⟩ := inb_ex hx
          obtain ⟨k, hk, rfl⟩ := inb_ex hy
          obtain ⟨q, hq, rfl⟩ := inb_ex hz
          obtain ⟨a1, a2, a3, a4, a5, a6, a7, a8, a9⟩ := hR
          have h4 := a1.2.1
          have h6 := a1.1
          have n1 := a2.1
          rw [ci hj (by omega), ci hk (by omega), ci hq (by decide)]
          refine ⟨a1, ⟨?_, fun i hi => ?_⟩, a3, a4, a5, a6, a7, a8, fun h => ⟨(a9 h).1, (a9 h).2.1, dR_sim ⟨rfl, rfl, rfl, rfl, rfl, rfl, rfl, rfl, rfl, rfl⟩ (a9 h).2.2.1, nR_sim ⟨rfl, rfl, rfl, rfl, rfl, rfl, rfl, rfl, rfl, rfl⟩ (a9 h).2.2.2⟩⟩
          · show S 0 2 + 1 ≤ 10
            omega
          · have hi : i < S 0 2 + 1 := hi
            show su (S 6) (S 0 2) j i < S 0 1 ∧ su (S 7) (S 0 2) k i < S 0 0 ∧ su (S 8) (S 0 2) q i < 4
            simp only [su_if]
            split
            · exact ⟨hj, hk, hq⟩
            · exact a2.2 i (by omega)
-- vane
def okVane (x y z : Int32) : Bool := inb x 5 && (inb y 4 && inb z 4)
def A_vane (S : Nat → Nat → Nat) (x y z : Int32) : Int32 := cond (okVane x y z) (if S 0 0 = 0 then -103 else if S 0 1 = 4 then -104 else nI (S 0 1)) (-102)
def vaneS (S : Nat → Nat → Nat) (k a t : Nat) : Nat → Nat → Nat := su (su (su (su S 2 (su (S 2) (S 0 1) k)) 3 (su (S 3) (S 0 1) a)) 4 (su (S 4) (S 0 1) t)) 0 (su (S 0) 1 (S 0 1 + 1))
def N_vane (S : Nat → Nat → Nat) (x y z : Int32) : Nat → Nat → Nat := cond (okVane x y z) (if S 0 0 = 0 then S else if S 0 1 = 4 then S else vaneS S x.toNatClampNeg y.toNatClampNeg z.toNatClampNeg) S
set_option maxRecDepth 100000 in
set_option maxHeartbeats 4000000 in
theorem s_raise (hC : sm_C 1 CT) {k a t n : Nat} (e : G 3 2 = nI n) (hn : n < 4) (hQ : Q none (hp (su (su (su (su G 5 (su (G 5) n (nI k))) 6 (su (G 6) n (nI a))) 7 (su (G 7) n (nI t))) 3 (su (G 3) 2 (nI (n + 1)))) L)) : CT 4 [.ref 3, .int (nI k), .int (nI a), .int (nI t)] (hp G L) Q := by
  refine sm_meth hC [some (.ref 3), some (.int (nI k)), some (.int (nI a)), some (.int (nI t))] rfl rfl rfl ?_
  refine sm_body [] 80 sm_k4 (fun CT K hC hK => ?_)
  have cn : (nI n).toNatClampNeg = n := zn_clI (by omega)
  repeat' first
    | (with_reducible refine And.intro ?_ ?_)
    | ((with_reducible intro h9); first | exact absurd h9 (by decide) | ((rw [e] at h9; replace h9 := zlt (b := 4) (by omega) (by omega) h9)) | ((rw [e] at h9; replace h9 := znl (b := 4) (by omega) (by omega) h9; exfalso; omega)) | skip)
    | (with_reducible exact zn_in (by omega) (by decide))
    | (with_reducible exact z01) | (with_reducible exact z11) | (with_reducible exact zb01 _)
    | (with_reducible exact zn_inb (by omega) (by decide))
    | (with_reducible exact zn_ina (by omega) (by decide))
    | (with_reducible exact zn_inc (by omega) (by decide))
    | ((conv => whnf); first | (with_reducible refine And.intro ?_ ?_) | ((with_reducible intro h9); first | exact absurd h9 (by decide) | ((rw [e] at h9; replace h9 := zlt (b := 4) (by omega) (by omega) h9)) | ((rw [e] at h9; replace h9 := znl (b := 4) (by omega) (by omega) h9; exfalso; omega)) | skip) | (with_reducible refine hK _ _ _ _ (sm_un ?_)) | ((rw [e]; exact zn_in (by omega) (by decide))))
  conv => whnf
  simp only [hp_0, hp_1, hp_2, hp_3, hp_4, hp_5, hp_6, hp_7, hp_8, hp_9, hp_10, hp_11, hp_12, hp_13, hp_14, hp_15, hp_16, hp_17, hp_18, hp_19, hp_20, hp_22, hp_23, hp_24, hp_25, hp_26, hp_27, hp_28, hp_29, hp_30, hp_31, hp_32, hp_33, hp_34, hp_35, hp_36, hp_37, hp_38, hp_39, hp_40, hp_41, hp_42, hp_43, hp_44, hp_45, hp_46, hp_47, hp_48, hp_49, hf0_5, hf0_6, hf0_7, hf1_1, hf3_0, hf3_2, hf3_6, hf10_0, hf10_2, hf10_6, hf17_3, hf17_4, hf20_3, hf20_4, hf30_0, hf30_1, hf30_3, hf30_7, hf30_11, hf30_12, hf30_20, hf30_22, hf30_23, hf30_24, hf30_25, hf30_21, hf30_31, upd_su, updL_su, e, cn, nI_add]
  exact hQ
set_option maxRecDepth 100000 in
set_option maxHeartbeats 4000000 in
theorem f_vane (hC : sm_C 2 CT) (hR : RS c S) (hI : Ic S G) {x y z : Int32} (hQ : ∀ G', eqx clsP G G' → Ic (N_vane S x y z) G' → Q (some (.int (A_vane S x y z))) (hp G' L)) : CT 47 [.ref 0, .int x, .int y, .int z] (hp G L) Q := by
  obtain ⟨i1, i2, i3, i4, i5⟩ := id hI
  obtain ⟨hdR, hnR, -⟩ := id hR
  obtain ⟨r1, r2, r3, r4⟩ := id hdR
  obtain ⟨e1, e2, e3, e4, e5, e6, e7⟩ := id i1
  refine sm_meth hC [some (.ref 0), some (.int x), some (.int y), some (.int z)] rfl rfl rfl ?_
  refine sm_body [] 60 sm_k47 (fun CT K hC hK => ?_)
  unfold A_vane N_vane okVane at hQ
  repeat' first
    | (with_reducible refine And.intro ?_ ?_)
    | ((with_reducible intro h9); first | exact absurd h9 (by decide) | (replace h9 := sb_f h9) | ((have h8 := inb_ex (x := x) (sb_t h9); obtain ⟨j, hj, rfl⟩ := h8)) | ((have h8 := inb_ex (x := y) (sb_t h9); obtain ⟨k, hk, rfl⟩ := h8)) | ((have h8 := inb_ex (x := z) (sb_t h9); obtain ⟨q, hq, rfl⟩ := h8)) | ((rw [e1] at h9; replace h9 := zeq (by omega) (by omega) h9)) | ((rw [e1] at h9; replace h9 := zneq h9)) | ((rw [e2] at h9; replace h9 := zlt (b := 4) (by omega) (by omega) h9)) | ((rw [e2] at h9; replace h9 := znl (b := 4) (by omega) (by omega) h9)) | skip)
    | (with_reducible exact zn_in (by omega) (by decide))
    | (with_reducible exact z01) | (with_reducible exact z11) | (with_reducible exact zb01 _)
    | (with_reducible exact zn_inb (by omega) (by decide))
    | (with_reducible exact zn_ina (by omega) (by decide))
    | (with_reducible exact zn_inc (by omega) (by decide))
    | ((conv => whnf); first | (with_reducible refine And.intro ?_ ?_) | ((with_reducible intro h9); first | exact absurd h9 (by decide) | (replace h9 := sb_f h9) | ((have h8 := inb_ex (x := x) (sb_t h9); obtain ⟨j, hj, rfl⟩ := h8)) | ((have h8 := inb_ex (x := y) (sb_t h9); obtain ⟨k, hk, rfl⟩ := h8)) | ((have h8 := inb_ex (x := z) (sb_t h9); obtain ⟨q, hq, rfl⟩ := h8)) | ((rw [e1] at h9; replace h9 := zeq (by omega) (by omega) h9)) | ((rw [e1] at h9; replace h9 := zneq h9)) | ((rw [e2] at h9; replace h9 := zlt (b := 4) (by omega) (by omega) h9)) | ((rw [e2] at h9; replace h9 := znl (b := 4) (by omega) (by omega) h9)) | skip) | (with_reducible refine hK _ _ _ _ (sm_un ?_)) | (with_reducible refine b_isKind (hC.mono (by omega)) ?_) | (with_reducible refine b_isQuarter (hC.mono (by omega)) ?_) | (with_reducible refine b_isTwist (hC.mono (by omega)) ?_) | (with_reducible refine s_raise (hC.mono (by omega)) e2 ‹_› ?_))
  · (simp only [h9, Bool.and_true, Bool.true_and, Bool.false_and, Bool.and_false, cond_true, cond_false] at hQ; exact hQ G eqx_rfl hI)
  · (simp only [i0 hj (show 5 ≤ 100 by decide), h9, Bool.and_true, Bool.true_and, Bool.false_and, Bool.and_false, cond_true, cond_false] at hQ; exact hQ G eqx_rfl hI)
  · have n4 : ¬ S 0 1 = 4 := by omega
    simp only [i0 hj (show 5 ≤ 100 by decide), i0 hk (show 4 ≤ 100 by decide), i0 hq (show 4 ≤ 100 by decide), ci hj (show 5 ≤ 100 by decide), ci hk (show 4 ≤ 100 by decide), ci hq (show 4 ≤ 100 by decide), if_f ‹S 0 0 ≠ 0›, if_f n4, Bool.and_true, Bool.true_and, Bool.false_and, Bool.and_false, cond_true, cond_false] at hQ
    conv => whnf
    simp only [hp_0, hp_1, hp_2, hp_3, hp_4, hp_5, hp_6, hp_7, hp_8, hp_9, hp_10, hp_11, hp_12, hp_13, hp_14, hp_15, hp_16, hp_17, hp_18, hp_19, hp_20, hp_22, hp_23, hp_24, hp_25, hp_26, hp_27, hp_28, hp_29, hp_30, hp_31, hp_32, hp_33, hp_34, hp_35, hp_36, hp_37, hp_38, hp_39, hp_40, hp_41, hp_42, hp_43, hp_44, hp_45, hp_46, hp_47, hp_48, hp_49, hf0_5, hf0_6, hf0_7, hf1_1, hf3_0, hf3_2, hf3_6, hf10_0, hf10_2, hf10_6, hf17_3, hf17_4, hf20_3, hf20_4, hf30_0, hf30_1, hf30_3, hf30_7, hf30_11, hf30_12, hf30_20, hf30_22, hf30_23, hf30_24, hf30_25, hf30_21, hf30_31, upd_su, updL_su]
    refine zq ?_ (hQ _ (eqx_su 17 _ rfl (eqx_su 3 _ rfl (eqx_su 7 _ rfl (eqx_su 6 _ rfl (eqx_su 5 _ rfl eqx_rfl))))) ⟨⟨e1, rfl, e3, e4, fun i hi => ?_, e6, e7⟩, i2, i3, Or.inr rfl, fun h => ?_⟩)
    · show nI (S 0 1 + 1) - nI 1 = nI (S 0 1)
      rw [pk_sub (by omega)]
      rfl
    · have hi : i < S 0 1 + 1 := hi
      show su (G 5) (S 0 1) (nI j) i = nI (su (S 2) (S 0 1) j i) ∧ su (G 6) (S 0 1) (nI k) i = nI (su (S 3) (S 0 1) k i) ∧ su (G 7) (S 0 1) (nI q) i = nI (su (S 4) (S 0 1) q i)
      simp only [su_if]
      split
      · exact ⟨rfl, rfl, rfl⟩
      · exact e5 i (by omega)
    · obtain ⟨q1, q2, q3, q4, q5, q6, q7⟩ := i5 h
      have hle := (hR.2.2.2.2.2.2.2.2 h).2.1
      refine ⟨q1, q2, q3, q4, fun i hi => ?_, q6, q7⟩
      have hi : i < S 0 7 := hi
      have q := q5 i hi
      refine ⟨?_, ?_, q.2.2⟩
      · show G 12 i = nI (su (S 2) (S 0 1) j i)
        rw [su_ne _ _ (by omega)]
        exact q.1
      · show G 13 i = nI (su (S 3) (S 0 1) k i)
        rw [su_ne _ _ (by omega)]
        exact q.2.1
  · (simp only [i0 hj (show 5 ≤ 100 by decide), i0 hk (show 4 ≤ 100 by decide), i0 hq (show 4 ≤ 100 by decide), if_f ‹S 0 0 ≠ 0›, if_t (show S 0 1 = 4 by omega), Bool.and_true, Bool.true_and, Bool.false_and, Bool.and_false, cond_true, cond_false] at hQ; exact hQ G eqx_rfl hI)
  · (simp only [i0 hj (show 5 ≤ 100 by decide), i0 hk (show 4 ≤ 100 by decide), i0 hq (show 4 ≤ 100 by decide), if_t h9, Bool.and_true, Bool.true_and, Bool.false_and, Bool.and_false, cond_true, cond_false] at hQ; exact hQ G eqx_rfl hI)
  · (simp only [i0 hj (show 5 ≤ 100 by decide), i0 hk (show 4 ≤ 100 by decide), h9, Bool.and_true, Bool.true_and, Bool.false_and, Bool.and_false, cond_true, cond_false] at hQ; exact hQ G eqx_rfl hI)
set_option maxRecDepth 100000 in
set_option maxHeartbeats 4000000 in
theorem g_vane (hC : sm_C 3 CT) (hR : RS c S) (hI : Im c S G) {x y z : Int32} (hQ : ∀ G', eqx mdlP G G' → Im c (N_vane S x y z) G' → Q (some (.int (A_vane S x y z))) (hp G' L)) : CT 93 [.ref 30, .int x, .int y, .int z] (hp G L) Q := by
  obtain ⟨i1, i2, i3, i4, i5, i6, i7⟩ := id hI
  obtain ⟨hdR, hnR, -⟩ := id hR
  obtain ⟨r1, r2, r3, r4⟩ := id hdR
  obtain ⟨e1, e2, e3, e4⟩ := id i1
  have cn : (nI (S 0 1)).toNatClampNeg = S 0 1 := zn_clI (by omega)
  refine sm_meth hC [some (.ref 30), some (.int x), some (.int y), some (.int z)] rfl rfl rfl ?_
  refine sm_body [] 60 sm_k93 (fun CT K hC hK => ?_)
  unfold A_vane N_vane okVane at hQ
  repeat' first
    | (with_reducible refine And.intro ?_ ?_)
    | ((with_reducible intro h9); first | exact absurd h9 (by decide) | (replace h9 := sb_f h9) | ((have h8 := inb_ex (x := x) (sb_t h9); obtain ⟨j, hj, rfl⟩ := h8)) | ((have h8 := inb_ex (x := y) (sb_t h9); obtain ⟨k, hk, rfl⟩ := h8)) | ((have h8 := inb_ex (x := z) (sb_t h9); obtain ⟨q, hq, rfl⟩ := h8)) | ((rw [e1] at h9; replace h9 := zeq (by omega) (by omega) h9)) | ((rw [e1] at h9; replace h9 := zneq h9)) | ((rw [e2] at h9; replace h9 := zeq (b := 4) (by omega) (by omega) h9)) | ((rw [e2] at h9; replace h9 := zneq h9)) | skip)
    | (with_reducible exact zn_in (by omega) (by decide))
    | (with_reducible exact z01) | (with_reducible exact z11) | (with_reducible exact zb01 _)
    | (with_reducible exact zn_inb (by omega) (by decide))
    | (with_reducible exact zn_ina (by omega) (by decide))
    | (with_reducible exact zn_inc (by omega) (by decide))
    | ((conv => whnf); first | (with_reducible refine And.intro ?_ ?_) | ((with_reducible intro h9); first | exact absurd h9 (by decide) | (replace h9 := sb_f h9) | ((have h8 := inb_ex (x := x) (sb_t h9); obtain ⟨j, hj, rfl⟩ := h8)) | ((have h8 := inb_ex (x := y) (sb_t h9); obtain ⟨k, hk, rfl⟩ := h8)) | ((have h8 := inb_ex (x := z) (sb_t h9); obtain ⟨q, hq, rfl⟩ := h8)) | ((rw [e1] at h9; replace h9 := zeq (by omega) (by omega) h9)) | ((rw [e1] at h9; replace h9 := zneq h9)) | ((rw [e2] at h9; replace h9 := zeq (b := 4) (by omega) (by omega) h9)) | ((rw [e2] at h9; replace h9 := zneq h9)) | skip) | (with_reducible refine hK _ _ _ _ (sm_un ?_)) | (with_reducible refine b_withinM (n := 5) (hC.mono (by omega)) (by decide) rfl ?_) | (with_reducible refine b_isQuarterM (hC.mono (by omega)) ?_) | ((rw [e2]; exact zn_in (by omega) (by decide))))
  · (simp only [h9, Bool.and_true, Bool.true_and, Bool.false_and, Bool.and_false, cond_true, cond_false] at hQ; exact hQ G eqx_rfl hI)
  · (simp only [i0 hj (show 5 ≤ 100 by decide), h9, Bool.and_true, Bool.true_and, Bool.false_and, Bool.and_false, cond_true, cond_false] at hQ; exact hQ G eqx_rfl hI)
  · simp only [i0 hj (show 5 ≤ 100 by decide), i0 hk (show 4 ≤ 100 by decide), i0 hq (show 4 ≤ 100 by decide), ci hj (show 5 ≤ 100 by decide), ci hk (show 4 ≤ 100 by decide), ci hq (show 4 ≤ 100 by decide), if_f ‹S 0 0 ≠ 0›, if_f h9, Bool.and_true, Bool.true_and, Bool.false_and, Bool.and_false, cond_true, cond_false] at hQ
    conv => whnf
    simp only [hp_0, hp_1, hp_2, hp_3, hp_4, hp_5, hp_6, hp_7, hp_8, hp_9, hp_10, hp_11, hp_12, hp_13, hp_14, hp_15, hp_16, hp_17, hp_18, hp_19, hp_20, hp_22, hp_23, hp_24, hp_25, hp_26, hp_27, hp_28, hp_29, hp_30, hp_31, hp_32, hp_33, hp_34, hp_35, hp_36, hp_37, hp_38, hp_39, hp_40, hp_41, hp_42, hp_43, hp_44, hp_45, hp_46, hp_47, hp_48, hp_49, hf0_5, hf0_6, hf0_7, hf1_1, hf3_0, hf3_2, hf3_6, hf10_0, hf10_2, hf10_6, hf17_3, hf17_4, hf20_3, hf20_4, hf30_0, hf30_1, hf30_3, hf30_7, hf30_11, hf30_12, hf30_20, hf30_22, hf30_23, hf30_24, hf30_25, hf30_21, hf30_31, upd_su, updL_su, e2, cn, nI_add]
    refine zq ?_ (hQ _ (eqx_su 30 _ rfl (eqx_su 34 _ rfl (eqx_su 33 _ rfl (eqx_su 32 _ rfl eqx_rfl)))) ⟨⟨e1, rfl, e3, fun i hi => ?_⟩, i2, i3, i4, i5, i6, i7⟩)
    · show nI (S 0 1 + 1) - nI 1 = nI (S 0 1)
      rw [pk_sub (by omega)]
      rfl
    · have hi : i < S 0 1 + 1 := hi
      show su (G 32) (S 0 1) (nI j) i = nI (su (S 2) (S 0 1) j i) ∧ su (G 33) (S 0 1) (nI k) i = nI (su (S 3) (S 0 1) k i) ∧ su (G 34) (S 0 1) (nI q) i = nI (su (S 4) (S 0 1) q i)
      simp only [su_if]
      split
      · exact ⟨rfl, rfl, rfl⟩
      · exact e4 i (by omega)
  · (simp only [i0 hj (show 5 ≤ 100 by decide), i0 hk (show 4 ≤ 100 by decide), i0 hq (show 4 ≤ 100 by decide), if_f ‹S 0 0 ≠ 0›, if_t h9, Bool.and_true, Bool.true_and, Bool.false_and, Bool.and_false, cond_true, cond_false] at hQ; exact hQ G eqx_rfl hI)
  · (simp only [i0 hj (show 5 ≤ 100 by decide), i0 hk (show 4 ≤ 100 by decide), i0 hq (show 4 ≤ 100 by decide), if_t h9, Bool.and_true, Bool.true_and, Bool.false_and, Bool.and_false, cond_true, cond_false] at hQ; exact hQ G eqx_rfl hI)
  · (simp only [i0 hj (show 5 ≤ 100 by decide), i0 hk (show 4 ≤ 100 by decide), h9, Bool.and_true, Bool.true_and, Bool.false_and, Bool.and_false, cond_true, cond_false] at hQ; exact hQ G eqx_rfl hI)
theorem R_vane (hR : RS c S) (x y z : Int32) : RS c (N_vane S x y z) := by
  unfold N_vane okVane
  cases hx : inb x 5 with
  | false => exact hR
  | true =>
    cases hy : inb y 4 with
    | false => exact hR
    | true =>
      cases hz : inb z 4 with
      | false => exact hR
      | true =>
        simp only [Bool.and_true, cond_true]
        split
        · exact hR
        · split
          · exact hR
          · rename_i h0 h4
            obtain ⟨j, hj, rfl⟩ := inb_ex hx
            obtain ⟨k, hk, rfl⟩ := inb_ex hy
            obtain ⟨q, hq, rfl⟩ := inb_ex hz
            obtain ⟨a1, a2, a3, a4, a5, a6, a7, a8, a9⟩ := hR
            have b4 := a1.2.1
            rw [ci hj (by decide), ci hk (by decide), ci hq (by decide)]
            refine ⟨⟨a1.1, ?_, a1.2.2.1, fun i hi => ?_⟩, ⟨a2.1, fun i hi => ?_⟩, a3, a4, a5, a6, a7, fun h => absurd h h0, fun h => ?_⟩
            · show S 0 1 + 1 ≤ 4
              omega
            · have hi : i < S 0 1 + 1 := hi
              show su (S 2) (S 0 1) j i ≤ 4 ∧ su (S 3) (S 0 1) k i < 4 ∧ su (S 4) (S 0 1) q i < 4
              simp only [su_if]
              split
              · exact ⟨by omega, hk, hq⟩
              · exact a1.2.2.2 i (by omega)
            · have e := a2.2 i hi
              exact ⟨Nat.lt_succ_of_lt e.1, e.2⟩
            · obtain ⟨u1, u2, u3, u4⟩ := a9 h
              refine ⟨u1, Nat.le_succ_of_le u2, ⟨u3.1, u3.2.1, u3.2.2.1, fun i hi => ?_⟩, u4⟩
              have hi : i < S 0 7 := hi
              have e := u3.2.2.2 i hi
              show su (S 2) (S 0 1) j i ≤ 4 ∧ su (S 3) (S 0 1) k i < 4 ∧ S 10 i < 4
              rw [su_ne _ _ (by omega), su_ne _ _ (by omega)]
              exact e
end MOVES3
end
section
/-! image and restore. -/
section MOVES4
variable {CT : sm_CT} {G : Nat → Nat → Int32} {L : Nat → Nat → Int64} {Q : sm_Q} {S : Nat → Nat → Nat} {c : Nat} {h : sm_H}
theorem hF_cp {a0 a2 a6 b0 b2 b6 : Int32} {W K A T O M W' K' A' T' O' M' : Nat → Int32} (hR : dR S) (h : hF S a0 a2 a6 W K A T O M) (h0 : b0 = a0) (h2 : b2 = a2) (h6 : b6 = a6) (hW : ∀ i, i < 6 → W' i = W i) (hK : ∀ i, i < 4 → K' i = K i) (hA : ∀ i, i < 4 → A' i = A i) (hT : ∀ i, i < 4 → T' i = T i) (hO : ∀ i, i < 4 → O' i = O i) (hM : ∀ i, i < 24 → M' i = M i) : hF S b0 b2 b6 W' K' A' T' O' M' := by
  obtain ⟨r1, r2, -, -⟩ := hR
  obtain ⟨e1, e2, e3, e4, e5, e6, e7⟩ := h
  subst h0
  subst h2
  subst h6
  refine ⟨e1, e2, e3, fun i hi => ?_, fun i hi => ?_, fun v hv => ?_, fun v hv k hk => ?_⟩
  · rw [hW i (by omega)]; exact e4 i hi
  · rw [hK i (by omega), hA i (by omega), hT i (by omega)]; exact e5 i hi
  · rw [hO v hv]; exact e6 v hv
  · rw [hM _ (by omega)]; exact e7 v hv k hk
set_option maxRecDepth 100000 in
set_option maxHeartbeats 4000000 in
theorem s_keep (hC : sm_C 1 CT) (hQ : ∀ G1, eqx [10, 11, 12, 13, 14, 15, 16] G G1 → (G1 10 0 = G 3 0 ∧ G1 10 2 = G 3 2 ∧ G1 10 6 = G 3 6) → (∀ j, j < 6 → G1 11 j = G 4 j) → (∀ j, j < 4 → G1 12 j = G 5 j ∧ G1 13 j = G 6 j ∧ G1 14 j = G 7 j ∧ G1 15 j = G 8 j) → (∀ j, j < 24 → G1 16 j = G 9 j) → Q none (hp G1 L)) : CT 7 [.ref 10, .ref 3] (hp G L) Q := by
  refine sm_meth hC [some (.ref 10), some (.ref 3), none] rfl rfl rfl ?_
  have lo3 : ∀ i, i ≤ 24 → ∀ G1, eqx [10, 11, 12, 13, 14, 15, 16] G G1 → (G1 10 0 = G 3 0 ∧ G1 10 2 = G 3 2 ∧ G1 10 6 = G 3 6) → (∀ j, j < 6 → G1 11 j = G 4 j) → (∀ j, j < 4 → G1 12 j = G 5 j ∧ G1 13 j = G 6 j ∧ G1 14 j = G 7 j ∧ G1 15 j = G 8 j) → (∀ j, j < i → G1 16 j = G 9 j) → sm_Wk 0 7 Q none 113 [some (.ref 10), some (.ref 3), some (.int (nI i))] [] (hp G1 L) := by
    refine up _ (fun i hi ih G1 hx hf h1 h4 h6 => ?_)
    refine sm_body [113] 80 sm_k7 (fun CT K hC hK => ?_)
    repeat' first
      | (with_reducible refine And.intro ?_ ?_)
      | ((with_reducible intro h9); first | exact absurd h9 (by decide) | (replace h9 := zle (a := 24) (by omega) (by omega) h9) | (replace h9 := znle (a := 24) (by omega) (by omega) h9) | skip)
      | (with_reducible exact zn_in (by omega) (by decide))
      | (with_reducible exact z01) | (with_reducible exact z11) | (with_reducible exact zb01 _)
      | (with_reducible exact zn_inb (by omega) (by decide))
      | (with_reducible exact zn_ina (by omega) (by decide))
      | (with_reducible exact zn_inc (by omega) (by decide))
      | ((conv => whnf); first | (with_reducible refine And.intro ?_ ?_) | ((with_reducible intro h9); first | exact absurd h9 (by decide) | (replace h9 := zle (a := 24) (by omega) (by omega) h9) | (replace h9 := znle (a := 24) (by omega) (by omega) h9) | skip) | (with_reducible refine hK _ _ _ _ (sm_un ?_)))
    · exact hQ G1 hx hf h1 h4 (fun j hj => h6 j (by omega))
    · simp only [hp_0, hp_1, hp_2, hp_3, hp_4, hp_5, hp_6, hp_7, hp_8, hp_9, hp_10, hp_11, hp_12, hp_13, hp_14, hp_15, hp_16, hp_17, hp_18, hp_19, hp_20, hp_22, hp_23, hp_24, hp_25, hp_26, hp_27, hp_28, hp_29, hp_30, hp_31, hp_32, hp_33, hp_34, hp_35, hp_36, hp_37, hp_38, hp_39, hp_40, hp_41, hp_42, hp_43, hp_44, hp_45, hp_46, hp_47, hp_48, hp_49, hf0_5, hf0_6, hf0_7, hf1_1, hf3_0, hf3_2, hf3_6, hf10_0, hf10_2, hf10_6, hf17_3, hf17_4, hf20_3, hf20_4, hf30_0, hf30_1, hf30_3, hf30_7, hf30_11, hf30_12, hf30_20, hf30_22, hf30_23, hf30_24, hf30_25, hf30_21, hf30_31, upd_su, updL_su, nI_add, zn_clI (show i < 2 ^ 31 by omega)]
      refine ⟨⟨ih ‹_› _ (eqx_su 16 _ rfl hx) hf h1 h4 (fun j hj => ?_)⟩⟩
      rw [su_eq, su_if]
      split
      · rename_i e
        rw [e, hx 9 rfl]
      · exact h6 j (by omega)
  have lo2 : ∀ i, i ≤ 4 → ∀ G1, eqx [10, 11, 12, 13, 14, 15, 16] G G1 → (G1 10 0 = G 3 0 ∧ G1 10 2 = G 3 2 ∧ G1 10 6 = G 3 6) → (∀ j, j < 6 → G1 11 j = G 4 j) → (∀ j, j < i → G1 12 j = G 5 j ∧ G1 13 j = G 6 j ∧ G1 14 j = G 7 j ∧ G1 15 j = G 8 j) → sm_Wk 0 7 Q none 52 [some (.ref 10), some (.ref 3), some (.int (nI i))] [] (hp G1 L) := by
    refine up _ (fun i hi ih G1 hx hf h1 h4 => ?_)
    refine sm_body [52, 113] 80 sm_k7 (fun CT K hC hK => ?_)
    repeat' first
      | (with_reducible refine And.intro ?_ ?_)
      | ((with_reducible intro h9); first | exact absurd h9 (by decide) | (replace h9 := zle (a := 4) (by omega) (by omega) h9) | (replace h9 := znle (a := 4) (by omega) (by omega) h9) | skip)
      | (with_reducible exact zn_in (by omega) (by decide))
      | (with_reducible exact z01) | (with_reducible exact z11) | (with_reducible exact zb01 _)
      | (with_reducible exact zn_inb (by omega) (by decide))
      | (with_reducible exact zn_ina (by omega) (by decide))
      | (with_reducible exact zn_inc (by omega) (by decide))
      | ((conv => whnf); first | (with_reducible refine And.intro ?_ ?_) | ((with_reducible intro h9); first | exact absurd h9 (by decide) | (replace h9 := zle (a := 4) (by omega) (by omega) h9) | (replace h9 := znle (a := 4) (by omega) (by omega) h9) | skip) | (with_reducible refine hK _ _ _ _ (sm_un ?_)))
    · exact ⟨⟨lo3 0 (Nat.zero_le _) G1 hx hf h1 (fun j hj => h4 j (by omega)) (fun j hj => absurd hj (Nat.not_lt_zero _))⟩⟩
    · simp only [hp_0, hp_1, hp_2, hp_3, hp_4, hp_5, hp_6, hp_7, hp_8, hp_9, hp_10, hp_11, hp_12, hp_13, hp_14, hp_15, hp_16, hp_17, hp_18, hp_19, hp_20, hp_22, hp_23, hp_24, hp_25, hp_26, hp_27, hp_28, hp_29, hp_30, hp_31, hp_32, hp_33, hp_34, hp_35, hp_36, hp_37, hp_38, hp_39, hp_40, hp_41, hp_42, hp_43, hp_44, hp_45, hp_46, hp_47, hp_48, hp_49, hf0_5, hf0_6, hf0_7, hf1_1, hf3_0, hf3_2, hf3_6, hf10_0, hf10_2, hf10_6, hf17_3, hf17_4, hf20_3, hf20_4, hf30_0, hf30_1, hf30_3, hf30_7, hf30_11, hf30_12, hf30_20, hf30_22, hf30_23, hf30_24, hf30_25, hf30_21, hf30_31, upd_su, updL_su, nI_add, zn_clI (show i < 2 ^ 31 by omega)]
      refine ⟨⟨ih ‹_› _ (eqx_su 15 _ rfl (eqx_su 14 _ rfl (eqx_su 13 _ rfl (eqx_su 12 _ rfl hx)))) hf h1 (fun j hj => ?_)⟩⟩
      have q : j < i → _ := h4 j
      show su (G1 12) i (G1 5 i) j = G 5 j ∧ su (G1 13) i (G1 6 i) j = G 6 j ∧ su (G1 14) i (G1 7 i) j = G 7 j ∧ su (G1 15) i (G1 8 i) j = G 8 j
      simp only [su_if]
      split
      · rename_i e
        rw [e, hx 5 rfl, hx 6 rfl, hx 7 rfl, hx 8 rfl]
        exact ⟨rfl, rfl, rfl, rfl⟩
      · exact q (by omega)
  have lo : ∀ i, i ≤ 6 → ∀ G1, eqx [10, 11, 12, 13, 14, 15, 16] G G1 → (G1 10 0 = G 3 0 ∧ G1 10 2 = G 3 2 ∧ G1 10 6 = G 3 6) → (∀ j, j < i → G1 11 j = G 4 j) → sm_Wk 0 7 Q none 26 [some (.ref 10), some (.ref 3), some (.int (nI i))] [] (hp G1 L) := by
    refine up _ (fun i hi ih G1 hx hf h1 => ?_)
    refine sm_body [26, 52] 80 sm_k7 (fun CT K hC hK => ?_)
    repeat' first
      | (with_reducible refine And.intro ?_ ?_)
      | ((with_reducible intro h9); first | exact absurd h9 (by decide) | (replace h9 := zle (a := 6) (by omega) (by omega) h9) | (replace h9 := znle (a := 6) (by omega) (by omega) h9) | skip)
      | (with_reducible exact zn_in (by omega) (by decide))
      | (with_reducible exact z01) | (with_reducible exact z11) | (with_reducible exact zb01 _)
      | (with_reducible exact zn_inb (by omega) (by decide))
      | (with_reducible exact zn_ina (by omega) (by decide))
      | (with_reducible exact zn_inc (by omega) (by decide))
      | ((conv => whnf); first | (with_reducible refine And.intro ?_ ?_) | ((with_reducible intro h9); first | exact absurd h9 (by decide) | (replace h9 := zle (a := 6) (by omega) (by omega) h9) | (replace h9 := znle (a := 6) (by omega) (by omega) h9) | skip) | (with_reducible refine hK _ _ _ _ (sm_un ?_)))
    · exact ⟨⟨lo2 0 (Nat.zero_le _) G1 hx hf (fun j hj => h1 j (by omega)) (fun j hj => absurd hj (Nat.not_lt_zero _))⟩⟩
    · simp only [hp_0, hp_1, hp_2, hp_3, hp_4, hp_5, hp_6, hp_7, hp_8, hp_9, hp_10, hp_11, hp_12, hp_13, hp_14, hp_15, hp_16, hp_17, hp_18, hp_19, hp_20, hp_22, hp_23, hp_24, hp_25, hp_26, hp_27, hp_28, hp_29, hp_30, hp_31, hp_32, hp_33, hp_34, hp_35, hp_36, hp_37, hp_38, hp_39, hp_40, hp_41, hp_42, hp_43, hp_44, hp_45, hp_46, hp_47, hp_48, hp_49, hf0_5, hf0_6, hf0_7, hf1_1, hf3_0, hf3_2, hf3_6, hf10_0, hf10_2, hf10_6, hf17_3, hf17_4, hf20_3, hf20_4, hf30_0, hf30_1, hf30_3, hf30_7, hf30_11, hf30_12, hf30_20, hf30_22, hf30_23, hf30_24, hf30_25, hf30_21, hf30_31, upd_su, updL_su, nI_add, zn_clI (show i < 2 ^ 31 by omega)]
      refine ⟨⟨ih ‹_› _ (eqx_su 11 _ rfl hx) hf (fun j hj => ?_)⟩⟩
      rw [su_eq, su_if]
      split
      · rename_i e
        rw [e, hx 4 rfl]
      · exact h1 j (by omega)
  refine sm_body [26] 60 sm_k7 (fun CT K hC hK => ?_)
  repeat' first
    | (with_reducible refine And.intro ?_ ?_)
    | ((with_reducible intro h9); first | exact absurd h9 (by decide) | skip)
    | (with_reducible exact zn_in (by omega) (by decide))
    | (with_reducible exact z01) | (with_reducible exact z11) | (with_reducible exact zb01 _)
    | (with_reducible exact zn_inb (by omega) (by decide))
    | (with_reducible exact zn_ina (by omega) (by decide))
    | (with_reducible exact zn_inc (by omega) (by decide))
    | ((conv => whnf); first | (with_reducible refine And.intro ?_ ?_) | ((with_reducible intro h9); first | exact absurd h9 (by decide) | skip) | (with_reducible refine hK _ _ _ _ (sm_un ?_)))
  simp only [hp_0, hp_1, hp_2, hp_3, hp_4, hp_5, hp_6, hp_7, hp_8, hp_9, hp_10, hp_11, hp_12, hp_13, hp_14, hp_15, hp_16, hp_17, hp_18, hp_19, hp_20, hp_22, hp_23, hp_24, hp_25, hp_26, hp_27, hp_28, hp_29, hp_30, hp_31, hp_32, hp_33, hp_34, hp_35, hp_36, hp_37, hp_38, hp_39, hp_40, hp_41, hp_42, hp_43, hp_44, hp_45, hp_46, hp_47, hp_48, hp_49, hf0_5, hf0_6, hf0_7, hf1_1, hf3_0, hf3_2, hf3_6, hf10_0, hf10_2, hf10_6, hf17_3, hf17_4, hf20_3, hf20_4, hf30_0, hf30_1, hf30_3, hf30_7, hf30_11, hf30_12, hf30_20, hf30_22, hf30_23, hf30_24, hf30_25, hf30_21, hf30_31, upd_su, updL_su]
  exact ⟨⟨lo 0 (Nat.zero_le _) _ (eqx_su 10 _ rfl (eqx_su 10 _ rfl (eqx_su 10 _ rfl eqx_rfl))) ⟨rfl, rfl, rfl⟩ (fun j hj => absurd hj (Nat.not_lt_zero _))⟩⟩
set_option maxRecDepth 100000 in
set_option maxHeartbeats 4000000 in
theorem s_back (hC : sm_C 1 CT) (hQ : ∀ G1, eqx [3, 4, 5, 6, 7, 8, 9] G G1 → (G1 3 0 = G 10 0 ∧ G1 3 2 = G 10 2 ∧ G1 3 6 = G 10 6) → (∀ j, j < 6 → G1 4 j = G 11 j) → (∀ j, j < 4 → G1 5 j = G 12 j ∧ G1 6 j = G 13 j ∧ G1 7 j = G 14 j ∧ G1 8 j = G 15 j) → (∀ j, j < 24 → G1 9 j = G 16 j) → Q none (hp G1 L)) : CT 7 [.ref 3, .ref 10] (hp G L) Q := by
  refine sm_meth hC [some (.ref 3), some (.ref 10), none] rfl rfl rfl ?_
  have lo3 : ∀ i, i ≤ 24 → ∀ G1, eqx [3, 4, 5, 6, 7, 8, 9] G G1 → (G1 3 0 = G 10 0 ∧ G1 3 2 = G 10 2 ∧ G1 3 6 = G 10 6) → (∀ j, j < 6 → G1 4 j = G 11 j) → (∀ j, j < 4 → G1 5 j = G 12 j ∧ G1 6 j = G 13 j ∧ G1 7 j = G 14 j ∧ G1 8 j = G 15 j) → (∀ j, j < i → G1 9 j = G 16 j) → sm_Wk 0 7 Q none 113 [some (.ref 3), some (.ref 10), some (.int (nI i))] [] (hp G1 L) := by
    refine up _ (fun i hi ih G1 hx hf h1 h4 h6 => ?_)
    refine sm_body [113] 80 sm_k7 (fun CT K hC hK => ?_)
    repeat' first
      | (with_reducible refine And.intro ?_ ?_)
      | ((with_reducible intro h9); first | exact absurd h9 (by decide) | (replace h9 := zle (a := 24) (by omega) (by omega) h9) | (replace h9 := znle (a := 24) (by omega) (by omega) h9) | skip)
      | (with_reducible exact zn_in (by omega) (by decide))
      | (with_reducible exact z01) | (with_reducible exact z11) | (with_reducible exact zb01 _)
      | (with_reducible exact zn_inb (by omega) (by decide))
      | (with_reducible exact zn_ina (by omega) (by decide))
      | (with_reducible exact zn_inc (by omega) (by decide))
      | ((conv => whnf); first | (with_reducible refine And.intro ?_ ?_) | ((with_reducible intro h9); first | exact absurd h9 (by decide) | (replace h9 := zle (a := 24) (by omega) (by omega) h9) | (replace h9 := znle (a := 24) (by omega) (by omega) h9) | skip) | (with_reducible refine hK _ _ _ _ (sm_un ?_)))
    · exact hQ G1 hx hf h1 h4 (fun j hj => h6 j (by omega))
    · simp only [hp_0, hp_1, hp_2, hp_3, hp_4, hp_5, hp_6, hp_7, hp_8, hp_9, hp_10, hp_11, hp_12, hp_13, hp_14, hp_15, hp_16, hp_17, hp_18, hp_19, hp_20, hp_22, hp_23, hp_24, hp_25, hp_26, hp_27, hp_28, hp_29, hp_30, hp_31, hp_32, hp_33, hp_34, hp_35, hp_36, hp_37, hp_38, hp_39, hp_40, hp_41, hp_42, hp_43, hp_44, hp_45, hp_46, hp_47, hp_48, hp_49, hf0_5, hf0_6, hf0_7, hf1_1, hf3_0, hf3_2, hf3_6, hf10_0, hf10_2, hf10_6, hf17_3, hf17_4, hf20_3, hf20_4, hf30_0, hf30_1, hf30_3, hf30_7, hf30_11, hf30_12, hf30_20, hf30_22, hf30_23, hf30_24, hf30_25, hf30_21, hf30_31, upd_su, updL_su, nI_add, zn_clI (show i < 2 ^ 31 by omega)]
      refine ⟨⟨ih ‹_› _ (eqx_su 9 _ rfl hx) hf h1 h4 (fun j hj => ?_)⟩⟩
      rw [su_eq, su_if]
      split
      · rename_i e
        rw [e, hx 16 rfl]
      · exact h6 j (by omega)
  have lo2 : ∀ i, i ≤ 4 → ∀ G1, eqx [3, 4, 5, 6, 7, 8, 9] G G1 → (G1 3 0 = G 10 0 ∧ G1 3 2 = G 10 2 ∧ G1 3 6 = G 10 6) → (∀ j, j < 6 → G1 4 j = G 11 j) → (∀ j, j < i → G1 5 j = G 12 j ∧ G1 6 j = G 13 j ∧ G1 7 j = G 14 j ∧ G1 8 j = G 15 j) → sm_Wk 0 7 Q none 52 [some (.ref 3), some (.ref 10), some (.int (nI i))] [] (hp G1 L) := by
    refine up _ (fun i hi ih G1 hx hf h1 h4 => ?_)
    refine sm_body [52, 113] 80 sm_k7 (fun CT K hC hK => ?_)
    repeat' first
      | (with_reducible refine And.intro ?_ ?_)
      | ((with_reducible intro h9); first | exact absurd h9 (by decide) | (replace h9 := zle (a := 4) (by omega) (by omega) h9) | (replace h9 := znle (a := 4) (by omega) (by omega) h9) | skip)
      | (with_reducible exact zn_in (by omega) (by decide))
      | (with_reducible exact z01) | (with_reducible exact z11) | (with_reducible exact zb01 _)
      | (with_reducible exact zn_inb (by omega) (by decide))
      | (with_reducible exact zn_ina (by omega) (by decide))
      | (with_reducible exact zn_inc (by omega) (by decide))
      | ((conv => whnf); first | (with_reducible refine And.intro ?_ ?_) | ((with_reducible intro h9); first | exact absurd h9 (by decide) | (replace h9 := zle (a := 4) (by omega) (by omega) h9) | (replace h9 := znle (a := 4) (by omega) (by omega) h9) | skip) | (with_reducible refine hK _ _ _ _ (sm_un ?_)))
    · exact ⟨⟨lo3 0 (Nat.zero_le _) G1 hx hf h1 (fun j hj => h4 j (by omega)) (fun j hj => absurd hj (Nat.not_lt_zero _))⟩⟩
    · simp only [hp_0, hp_1, hp_2, hp_3, hp_4, hp_5, hp_6, hp_7, hp_8, hp_9, hp_10, hp_11, hp_12, hp_13, hp_14, hp_15, hp_16, hp_17, hp_18, hp_19, hp_20, hp_22, hp_23, hp_24, hp_25, hp_26, hp_27, hp_28, hp_29, hp_30, hp_31, hp_32, hp_33, hp_34, hp_35, hp_36, hp_37, hp_38, hp_39, hp_40, hp_41, hp_42, hp_43, hp_44, hp_45, hp_46, hp_47, hp_48, hp_49, hf0_5, hf0_6, hf0_7, hf1_1, hf3_0, hf3_2, hf3_6, hf10_0, hf10_2, hf10_6, hf17_3, hf17_4, hf20_3, hf20_4, hf30_0, hf30_1, hf30_3, hf30_7, hf30_11, hf30_12, hf30_20, hf30_22, hf30_23, hf30_24, hf30_25, hf30_21, hf30_31, upd_su, updL_su, nI_add, zn_clI (show i < 2 ^ 31 by omega)]
      refine ⟨⟨ih ‹_› _ (eqx_su 8 _ rfl (eqx_su 7 _ rfl (eqx_su 6 _ rfl (eqx_su 5 _ rfl hx)))) hf h1 (fun j hj => ?_)⟩⟩
      have q : j < i → _ := h4 j
      show su (G1 5) i (G1 12 i) j = G 12 j ∧ su (G1 6) i (G1 13 i) j = G 13 j ∧ su (G1 7) i (G1 14 i) j = G 14 j ∧ su (G1 8) i (G1 15 i) j = G 15 j
      simp only [su_if]
      split
      · rename_i e
        rw [e, hx 12 rfl, hx 13 rfl, hx 14 rfl, hx 15 rfl]
        exact ⟨rfl, rfl, rfl, rfl⟩
      · exact q (by omega)
  have lo : ∀ i, i ≤ 6 → ∀ G1, eqx [3, 4, 5, 6, 7, 8, 9] G G1 → (G1 3 0 = G 10 0 ∧ G1 3 2 = G 10 2 ∧ G1 3 6 = G 10 6) → (∀ j, j < i → G1 4 j = G 11 j) → sm_Wk 0 7 Q none 26 [some (.ref 3), some (.ref 10), some (.int (nI i))] [] (hp G1 L) := by
    refine up _ (fun i hi ih G1 hx hf h1 => ?_)
    refine sm_body [26, 52] 80 sm_k7 (fun CT K hC hK => ?_)
    repeat' first
      | (with_reducible refine And.intro ?_ ?_)
      | ((with_reducible intro h9); first | exact absurd h9 (by decide) | (replace h9 := zle (a := 6) (by omega) (by omega) h9) | (replace h9 := znle (a := 6) (by omega) (by omega) h9) | skip)
      | (with_reducible exact zn_in (by omega) (by decide))
      | (with_reducible exact z01) | (with_reducible exact z11) | (with_reducible exact zb01 _)
      | (with_reducible exact zn_inb (by omega) (by decide))
      | (with_reducible exact zn_ina (by omega) (by decide))
      | (with_reducible exact zn_inc (by omega) (by decide))
      | ((conv => whnf); first | (with_reducible refine And.intro ?_ ?_) | ((with_reducible intro h9); first | exact absurd h9 (by decide) | (replace h9 := zle (a := 6) (by omega) (by omega) h9) | (replace h9 := znle (a := 6) (by omega) (by omega) h9) | skip) | (with_reducible refine hK _ _ _ _ (sm_un ?_)))
    · exact ⟨⟨lo2 0 (Nat.zero_le _) G1 hx hf (fun j hj => h1 j (by omega)) (fun j hj => absurd hj (Nat.not_lt_zero _))⟩⟩
    · simp only [hp_0, hp_1, hp_2, hp_3, hp_4, hp_5, hp_6, hp_7, hp_8, hp_9, hp_10, hp_11, hp_12, hp_13, hp_14, hp_15, hp_16, hp_17, hp_18, hp_19, hp_20, hp_22, hp_23, hp_24, hp_25, hp_26, hp_27, hp_28, hp_29, hp_30, hp_31, hp_32, hp_33, hp_34, hp_35, hp_36, hp_37, hp_38, hp_39, hp_40, hp_41, hp_42, hp_43, hp_44, hp_45, hp_46, hp_47, hp_48, hp_49, hf0_5, hf0_6, hf0_7, hf1_1, hf3_0, hf3_2, hf3_6, hf10_0, hf10_2, hf10_6, hf17_3, hf17_4, hf20_3, hf20_4, hf30_0, hf30_1, hf30_3, hf30_7, hf30_11, hf30_12, hf30_20, hf30_22, hf30_23, hf30_24, hf30_25, hf30_21, hf30_31, upd_su, updL_su, nI_add, zn_clI (show i < 2 ^ 31 by omega)]
      refine ⟨⟨ih ‹_› _ (eqx_su 4 _ rfl hx) hf (fun j hj => ?_)⟩⟩
      rw [su_eq, su_if]
      split
      · rename_i e
        rw [e, hx 11 rfl]
      · exact h1 j (by omega)
  refine sm_body [26] 60 sm_k7 (fun CT K hC hK => ?_)
  repeat' first
    | (with_reducible refine And.intro ?_ ?_)
    | ((with_reducible intro h9); first | exact absurd h9 (by decide) | skip)
    | (with_reducible exact zn_in (by omega) (by decide))
    | (with_reducible exact z01) | (with_reducible exact z11) | (with_reducible exact zb01 _)
    | (with_reducible exact zn_inb (by omega) (by decide))
    | (with_reducible exact zn_ina (by omega) (by decide))
    | (with_reducible exact zn_inc (by omega) (by decide))
    | ((conv => whnf); first | (with_reducible refine And.intro ?_ ?_) | ((with_reducible intro h9); first | exact absurd h9 (by decide) | skip) | (with_reducible refine hK _ _ _ _ (sm_un ?_)))
  simp only [hp_0, hp_1, hp_2, hp_3, hp_4, hp_5, hp_6, hp_7, hp_8, hp_9, hp_10, hp_11, hp_12, hp_13, hp_14, hp_15, hp_16, hp_17, hp_18, hp_19, hp_20, hp_22, hp_23, hp_24, hp_25, hp_26, hp_27, hp_28, hp_29, hp_30, hp_31, hp_32, hp_33, hp_34, hp_35, hp_36, hp_37, hp_38, hp_39, hp_40, hp_41, hp_42, hp_43, hp_44, hp_45, hp_46, hp_47, hp_48, hp_49, hf0_5, hf0_6, hf0_7, hf1_1, hf3_0, hf3_2, hf3_6, hf10_0, hf10_2, hf10_6, hf17_3, hf17_4, hf20_3, hf20_4, hf30_0, hf30_1, hf30_3, hf30_7, hf30_11, hf30_12, hf30_20, hf30_22, hf30_23, hf30_24, hf30_25, hf30_21, hf30_31, upd_su, updL_su]
  exact ⟨⟨lo 0 (Nat.zero_le _) _ (eqx_su 3 _ rfl (eqx_su 3 _ rfl (eqx_su 3 _ rfl eqx_rfl))) ⟨rfl, rfl, rfl⟩ (fun j hj => absurd hj (Nat.not_lt_zero _))⟩⟩
def imS (S : Nat → Nat → Nat) : Nat → Nat → Nat := fun p => match p with
  | 0 => su (su (su (S 0) 6 1) 7 (S 0 1)) 8 (S 0 2)
  | 9 => S 1
  | 10 => S 4
  | 11 => S 6
  | 12 => S 7
  | 13 => S 8
  | _ => S p
def A_image (S : Nat → Nat → Nat) : Int32 := if S 0 0 = 0 then -103 else nI (S 0 1)
def N_image (S : Nat → Nat → Nat) : Nat → Nat → Nat := if S 0 0 = 0 then S else imS S
set_option maxRecDepth 100000 in
set_option maxHeartbeats 4000000 in
theorem f_image (hC : sm_C 2 CT) (hR : RS c S) (hI : Ic S G) (hQ : ∀ G', eqx clsP G G' → Ic (N_image S) G' → Q (some (.int (A_image S))) (hp G' L)) : CT 61 [.ref 0] (hp G L) Q := by
  obtain ⟨i1, i2, i3, i4, i5⟩ := id hI
  obtain ⟨e1, e2, e3, e4, e5, e6, e7⟩ := id i1
  have r6 := hR.1.1
  refine sm_meth hC [some (.ref 0)] rfl rfl rfl ?_
  refine sm_body [] 60 sm_k61 (fun CT K hC hK => ?_)
  unfold A_image N_image at hQ
  repeat' first
    | (with_reducible refine And.intro ?_ ?_)
    | ((with_reducible intro h9); first | exact absurd h9 (by decide) | ((rw [e1] at h9; replace h9 := zneq h9)) | ((rw [e1] at h9; replace h9 := zeq (by omega) (by omega) h9)) | skip)
    | (with_reducible exact zn_in (by omega) (by decide))
    | (with_reducible exact z01) | (with_reducible exact z11) | (with_reducible exact zb01 _)
    | (with_reducible exact zn_inb (by omega) (by decide))
    | (with_reducible exact zn_ina (by omega) (by decide))
    | (with_reducible exact zn_inc (by omega) (by decide))
    | ((conv => whnf); first | (with_reducible refine And.intro ?_ ?_) | ((with_reducible intro h9); first | exact absurd h9 (by decide) | ((rw [e1] at h9; replace h9 := zneq h9)) | ((rw [e1] at h9; replace h9 := zeq (by omega) (by omega) h9)) | skip) | (with_reducible refine hK _ _ _ _ (sm_un ?_)) | (with_reducible refine s_keep (hC.mono (by omega)) (fun G1 hx hf h1 h4 h6 => ?_)))
  · simp only [if_f h9] at hQ
    conv => whnf
    simp only [hp_0, hp_1, hp_2, hp_3, hp_4, hp_5, hp_6, hp_7, hp_8, hp_9, hp_10, hp_11, hp_12, hp_13, hp_14, hp_15, hp_16, hp_17, hp_18, hp_19, hp_20, hp_22, hp_23, hp_24, hp_25, hp_26, hp_27, hp_28, hp_29, hp_30, hp_31, hp_32, hp_33, hp_34, hp_35, hp_36, hp_37, hp_38, hp_39, hp_40, hp_41, hp_42, hp_43, hp_44, hp_45, hp_46, hp_47, hp_48, hp_49, hf0_5, hf0_6, hf0_7, hf1_1, hf3_0, hf3_2, hf3_6, hf10_0, hf10_2, hf10_6, hf17_3, hf17_4, hf20_3, hf20_4, hf30_0, hf30_1, hf30_3, hf30_7, hf30_11, hf30_12, hf30_20, hf30_22, hf30_23, hf30_24, hf30_25, hf30_21, hf30_31, upd_su, updL_su]
    refine zq ?_ (hQ _ (eqx_su 0 _ rfl (eqx_sub rfl hx)) ⟨?_, ?_, ?_, ?_, fun _ => ?_⟩)
    · show G1 3 2 = _
      rw [hx 3 rfl, e2]
    · refine hF_sim ⟨rfl, rfl, rfl, rfl, rfl, rfl, rfl, rfl, rfl, rfl⟩ (?_ : hF S (G1 3 0) (G1 3 2) (G1 3 6) (G1 4) (G1 5) (G1 6) (G1 7) (G1 8) (G1 9))
      rw [hx 3 rfl, hx 4 rfl, hx 5 rfl, hx 6 rfl, hx 7 rfl, hx 8 rfl, hx 9 rfl]
      exact i1
    · show G1 1 1 = nI (S 0 3) ∧ ∀ i, i < S 0 3 → G1 2 i = nI (S 5 i)
      rw [hx 1 rfl, hx 2 rfl]
      exact i2
    · refine ⟨rfl, ?_, ?_⟩
      · show G1 0 6 = _
        rw [hx 0 rfl]; exact i3.2.1
      · show G1 0 7 = _
        rw [hx 0 rfl]; exact i3.2.2
    · have e : cT (imS S) G := cT_sim (S := S) (S' := imS S) ⟨rfl, rfl, rfl, rfl, rfl, rfl, rfl, rfl, rfl, rfl⟩ i4
      unfold cT tl at *
      show (G1 17 4 = nI 0 ∧ _) ∨ G1 17 4 = nI 1
      simp only [su_ne _ _ (show (17 : Nat) ≠ 0 by decide), su_ne _ _ (show (18 : Nat) ≠ 0 by decide), su_ne _ _ (show (19 : Nat) ≠ 0 by decide), hx 17 rfl, hx 18 rfl, hx 19 rfl]
      exact e
    · exact hF_sim ⟨rfl, rfl, rfl, rfl, rfl, rfl, rfl, rfl, rfl, rfl⟩ (hF_cp hR.1 i1 hf.1 hf.2.1 hf.2.2 h1 (fun j hj => (h4 j hj).1) (fun j hj => (h4 j hj).2.1) (fun j hj => (h4 j hj).2.2.1) (fun j hj => (h4 j hj).2.2.2) h6)
  · simp only [if_t h9] at hQ
    exact hQ G eqx_rfl hI
def A_restore (S : Nat → Nat → Nat) : Int32 := if S 0 6 = 1 then nI (S 0 7) else -103
def N_restore (S : Nat → Nat → Nat) : Nat → Nat → Nat := if S 0 6 = 1 then kS S else S
set_option maxRecDepth 100000 in
set_option maxHeartbeats 4000000 in
theorem f_restore (hC : sm_C 2 CT) (hR : RS c S) (hI : Ic S G) (hQ : ∀ G', eqx clsP G G' → Ic (N_restore S) G' → Q (some (.int (A_restore S))) (hp G' L)) : CT 62 [.ref 0] (hp G L) Q := by
  obtain ⟨i1, i2, i3, i4, i5⟩ := id hI
  have k1 := hR.2.2.2.2.2.2.1
  refine sm_meth hC [some (.ref 0)] rfl rfl rfl ?_
  refine sm_body [] 60 sm_k62 (fun CT K hC hK => ?_)
  unfold A_restore N_restore at hQ
  repeat' first
    | (with_reducible refine And.intro ?_ ?_)
    | ((with_reducible intro h9); first | exact absurd h9 (by decide) | ((rw [i3.1] at h9; replace h9 := zneq h9)) | ((rw [i3.1] at h9; replace h9 := zeq (by omega) (by omega) h9)) | skip)
    | (with_reducible exact zn_in (by omega) (by decide))
    | (with_reducible exact z01) | (with_reducible exact z11) | (with_reducible exact zb01 _)
    | (with_reducible exact zn_inb (by omega) (by decide))
    | (with_reducible exact zn_ina (by omega) (by decide))
    | (with_reducible exact zn_inc (by omega) (by decide))
    | ((conv => whnf); first | (with_reducible refine And.intro ?_ ?_) | ((with_reducible intro h9); first | exact absurd h9 (by decide) | ((rw [i3.1] at h9; replace h9 := zneq h9)) | ((rw [i3.1] at h9; replace h9 := zeq (by omega) (by omega) h9)) | skip) | (with_reducible refine hK _ _ _ _ (sm_un ?_)) | (with_reducible refine s_back (hC.mono (by omega)) (fun G1 hx hf h1 h4 h6 => ?_)))
  · have hk : S 0 6 = 1 := by omega
    simp only [if_t hk] at hQ
    have i5 := i5 hk
    conv => whnf
    simp only [hp_0, hp_1, hp_2, hp_3, hp_4, hp_5, hp_6, hp_7, hp_8, hp_9, hp_10, hp_11, hp_12, hp_13, hp_14, hp_15, hp_16, hp_17, hp_18, hp_19, hp_20, hp_22, hp_23, hp_24, hp_25, hp_26, hp_27, hp_28, hp_29, hp_30, hp_31, hp_32, hp_33, hp_34, hp_35, hp_36, hp_37, hp_38, hp_39, hp_40, hp_41, hp_42, hp_43, hp_44, hp_45, hp_46, hp_47, hp_48, hp_49, hf0_5, hf0_6, hf0_7, hf1_1, hf3_0, hf3_2, hf3_6, hf10_0, hf10_2, hf10_6, hf17_3, hf17_4, hf20_3, hf20_4, hf30_0, hf30_1, hf30_3, hf30_7, hf30_11, hf30_12, hf30_20, hf30_22, hf30_23, hf30_24, hf30_25, hf30_21, hf30_31, upd_su, updL_su]
    refine zq ?_ (hQ _ (eqx_su 17 _ rfl (eqx_sub rfl hx)) ⟨?_, ?_, ?_, Or.inr rfl, fun _ => ?_⟩)
    · show G1 3 2 = _
      rw [hf.2.1, i5.2.1]
      rfl
    · exact hF_cp (hR.2.2.2.2.2.2.2.2 hk).2.2.1 i5 hf.1 hf.2.1 hf.2.2 h1 (fun j hj => (h4 j hj).1) (fun j hj => (h4 j hj).2.1) (fun j hj => (h4 j hj).2.2.1) (fun j hj => (h4 j hj).2.2.2) h6
    · show G1 1 1 = nI (S 0 3) ∧ ∀ i, i < S 0 3 → G1 2 i = nI (S 5 i)
      rw [hx 1 rfl, hx 2 rfl]
      exact i2
    · show G1 0 5 = nI (S 0 6) ∧ G1 0 6 = nI (S 0 4) ∧ G1 0 7 = nI (S 0 5)
      rw [hx 0 rfl]
      exact i3
    · refine hF_sim ⟨rfl, rfl, rfl, rfl, rfl, rfl, rfl, rfl, rfl, rfl⟩ (?_ : hF (kS S) (G1 10 0) (G1 10 2) (G1 10 6) (G1 11) (G1 12) (G1 13) (G1 14) (G1 15) (G1 16))
      rw [hx 10 rfl, hx 11 rfl, hx 12 rfl, hx 13 rfl, hx 14 rfl, hx 15 rfl, hx 16 rfl]
      exact i5
  · simp only [if_f (show ¬ S 0 6 = 1 by omega)] at hQ
    exact hQ G eqx_rfl hI
theorem R_image (hR : RS c S) : RS c (N_image S) := by
  unfold N_image
  split
  · exact hR
  · rename_i h0
    obtain ⟨a1, a2, a3, a4, a5, a6, a7, a8, a9⟩ := hR
    exact ⟨dR_sim ⟨rfl, rfl, rfl, rfl, rfl, rfl, rfl, rfl, rfl, rfl⟩ a1, nR_sim ⟨rfl, rfl, rfl, rfl, rfl, rfl, rfl, rfl, rfl, rfl⟩ a2, a3, a4, a5, a6, Nat.le_refl 1, a8, fun _ => ⟨h0, Nat.le_refl _, dR_sim ⟨rfl, rfl, rfl, rfl, rfl, rfl, rfl, rfl, rfl, rfl⟩ a1, nR_sim ⟨rfl, rfl, rfl, rfl, rfl, rfl, rfl, rfl, rfl, rfl⟩ a2⟩⟩
theorem R_restore (hR : RS c S) : RS c (N_restore S) := by
  unfold N_restore
  split
  · rename_i hk
    obtain ⟨a1, a2, a3, a4, a5, a6, a7, a8, a9⟩ := hR
    obtain ⟨b1, b2, b3, b4⟩ := a9 hk
    exact ⟨b3, b4, a3, a4, a5, a6, a7, fun h => absurd h b1, fun _ => ⟨b1, Nat.le_refl _, dR_sim ⟨rfl, rfl, rfl, rfl, rfl, rfl, rfl, rfl, rfl, rfl⟩ b3, nR_sim ⟨rfl, rfl, rfl, rfl, rfl, rfl, rfl, rfl, rfl, rfl⟩ b4⟩⟩
  · exact hR
end MOVES4
end
section
/-! image and restore of the other one. -/
section MOVES5
variable {CT : sm_CT} {G : Nat → Nat → Int32} {L : Nat → Nat → Int64} {Q : sm_Q} {S : Nat → Nat → Nat} {c : Nat} {h : sm_H}
set_option maxRecDepth 100000 in
set_option maxHeartbeats 4000000 in
theorem s_imageM_l (hQ : ∀ G1, eqx [30, 45, 46, 47, 48, 49] G G1 → G1 30 = su (su (su (su (G 30) 22 (nI 1)) 23 (G 30 0)) 24 (G 30 3)) 25 (G 30 7) → (∀ j, j < 6 → G1 45 j = G 31 j) → (∀ j, j < 4 → G1 46 j = G 34 j) → (∀ j, j < 10 → G1 47 j = G 35 j ∧ G1 48 j = G 36 j ∧ G1 49 j = G 37 j) → Q (some (.int (G1 30 3))) (hp G1 L)) : ∀ i, i ≤ 6 → ∀ G1, eqx [30, 45, 46, 47, 48, 49] G G1 → G1 30 = su (su (su (su (G 30) 22 (nI 1)) 23 (G 30 0)) 24 (G 30 3)) 25 (G 30 7) → (∀ j, j < i → G1 45 j = G 31 j) → sm_Wk 1 134 Q none 41 [some (.ref 30), some (.int (nI i))] [] (hp G1 L) := by
  have lo3 : ∀ i, i ≤ 10 → ∀ G1, eqx [30, 45, 46, 47, 48, 49] G G1 → G1 30 = su (su (su (su (G 30) 22 (nI 1)) 23 (G 30 0)) 24 (G 30 3)) 25 (G 30 7) → (∀ j, j < 6 → G1 45 j = G 31 j) → (∀ j, j < 4 → G1 46 j = G 34 j) → (∀ j, j < i → G1 47 j = G 35 j ∧ G1 48 j = G 36 j ∧ G1 49 j = G 37 j) → sm_Wk 1 134 Q none 92 [some (.ref 30), some (.int (nI i))] [] (hp G1 L) := by
    refine up _ (fun i hi ih G1 hx hf h1 h4 h6 => ?_)
    refine sm_body [92] 80 sm_k134 (fun CT K hC hK => ?_)
    repeat' first
      | (with_reducible refine And.intro ?_ ?_)
      | ((with_reducible intro h9); first | exact absurd h9 (by decide) | (replace h9 := zle (a := 10) (by omega) (by omega) h9) | (replace h9 := znle (a := 10) (by omega) (by omega) h9) | skip)
      | (with_reducible exact zn_in (by omega) (by decide))
      | (with_reducible exact z01) | (with_reducible exact z11) | (with_reducible exact zb01 _)
      | (with_reducible exact zn_inb (by omega) (by decide))
      | (with_reducible exact zn_ina (by omega) (by decide))
      | (with_reducible exact zn_inc (by omega) (by decide))
      | ((conv => whnf); first | (with_reducible refine And.intro ?_ ?_) | ((with_reducible intro h9); first | exact absurd h9 (by decide) | (replace h9 := zle (a := 10) (by omega) (by omega) h9) | (replace h9 := znle (a := 10) (by omega) (by omega) h9) | skip) | (with_reducible refine hK _ _ _ _ (sm_un ?_)))
    · exact hQ G1 hx hf h1 h4 (fun j hj => h6 j (by omega))
    · simp only [hp_0, hp_1, hp_2, hp_3, hp_4, hp_5, hp_6, hp_7, hp_8, hp_9, hp_10, hp_11, hp_12, hp_13, hp_14, hp_15, hp_16, hp_17, hp_18, hp_19, hp_20, hp_22, hp_23, hp_24, hp_25, hp_26, hp_27, hp_28, hp_29, hp_30, hp_31, hp_32, hp_33, hp_34, hp_35, hp_36, hp_37, hp_38, hp_39, hp_40, hp_41, hp_42, hp_43, hp_44, hp_45, hp_46, hp_47, hp_48, hp_49, hf0_5, hf0_6, hf0_7, hf1_1, hf3_0, hf3_2, hf3_6, hf10_0, hf10_2, hf10_6, hf17_3, hf17_4, hf20_3, hf20_4, hf30_0, hf30_1, hf30_3, hf30_7, hf30_11, hf30_12, hf30_20, hf30_22, hf30_23, hf30_24, hf30_25, hf30_21, hf30_31, upd_su, updL_su, su_self, nI_add, zn_clI (show i < 2 ^ 31 by omega)]
      refine ⟨⟨ih ‹_› _ (eqx_su 49 _ rfl (eqx_su 48 _ rfl (eqx_su 47 _ rfl hx))) hf h1 h4 (fun j hj => ?_)⟩⟩
      have q : j < i → _ := h6 j
      show su (G1 47) i (G1 35 i) j = G 35 j ∧ su (G1 48) i (G1 36 i) j = G 36 j ∧ su (G1 49) i (G1 37 i) j = G 37 j
      simp only [su_if]
      split
      · rename_i e
        rw [e, hx 35 rfl, hx 36 rfl, hx 37 rfl]
        exact ⟨rfl, rfl, rfl⟩
      · exact q (by omega)
  have lo2 : ∀ i, i ≤ 4 → ∀ G1, eqx [30, 45, 46, 47, 48, 49] G G1 → G1 30 = su (su (su (su (G 30) 22 (nI 1)) 23 (G 30 0)) 24 (G 30 3)) 25 (G 30 7) → (∀ j, j < 6 → G1 45 j = G 31 j) → (∀ j, j < i → G1 46 j = G 34 j) → sm_Wk 1 134 Q none 67 [some (.ref 30), some (.int (nI i))] [] (hp G1 L) := by
    refine up _ (fun i hi ih G1 hx hf h1 h4 => ?_)
    refine sm_body [67, 92] 80 sm_k134 (fun CT K hC hK => ?_)
    repeat' first
      | (with_reducible refine And.intro ?_ ?_)
      | ((with_reducible intro h9); first | exact absurd h9 (by decide) | (replace h9 := zle (a := 4) (by omega) (by omega) h9) | (replace h9 := znle (a := 4) (by omega) (by omega) h9) | skip)
      | (with_reducible exact zn_in (by omega) (by decide))
      | (with_reducible exact z01) | (with_reducible exact z11) | (with_reducible exact zb01 _)
      | (with_reducible exact zn_inb (by omega) (by decide))
      | (with_reducible exact zn_ina (by omega) (by decide))
      | (with_reducible exact zn_inc (by omega) (by decide))
      | ((conv => whnf); first | (with_reducible refine And.intro ?_ ?_) | ((with_reducible intro h9); first | exact absurd h9 (by decide) | (replace h9 := zle (a := 4) (by omega) (by omega) h9) | (replace h9 := znle (a := 4) (by omega) (by omega) h9) | skip) | (with_reducible refine hK _ _ _ _ (sm_un ?_)))
    · exact ⟨⟨lo3 0 (Nat.zero_le _) G1 hx hf h1 (fun j hj => h4 j (by omega)) (fun j hj => absurd hj (Nat.not_lt_zero _))⟩⟩
    · simp only [hp_0, hp_1, hp_2, hp_3, hp_4, hp_5, hp_6, hp_7, hp_8, hp_9, hp_10, hp_11, hp_12, hp_13, hp_14, hp_15, hp_16, hp_17, hp_18, hp_19, hp_20, hp_22, hp_23, hp_24, hp_25, hp_26, hp_27, hp_28, hp_29, hp_30, hp_31, hp_32, hp_33, hp_34, hp_35, hp_36, hp_37, hp_38, hp_39, hp_40, hp_41, hp_42, hp_43, hp_44, hp_45, hp_46, hp_47, hp_48, hp_49, hf0_5, hf0_6, hf0_7, hf1_1, hf3_0, hf3_2, hf3_6, hf10_0, hf10_2, hf10_6, hf17_3, hf17_4, hf20_3, hf20_4, hf30_0, hf30_1, hf30_3, hf30_7, hf30_11, hf30_12, hf30_20, hf30_22, hf30_23, hf30_24, hf30_25, hf30_21, hf30_31, upd_su, updL_su, su_self, nI_add, zn_clI (show i < 2 ^ 31 by omega)]
      refine ⟨⟨ih ‹_› _ (eqx_su 46 _ rfl hx) hf h1 (fun j hj => ?_)⟩⟩
      rw [su_eq, su_if]
      split
      · rename_i e
        rw [e, hx 34 rfl]
      · exact h4 j (by omega)
  refine up _ (fun i hi ih G1 hx hf h1 => ?_)
  refine sm_body [41, 67] 80 sm_k134 (fun CT K hC hK => ?_)
  repeat' first
    | (with_reducible refine And.intro ?_ ?_)
    | ((with_reducible intro h9); first | exact absurd h9 (by decide) | (replace h9 := zle (a := 6) (by omega) (by omega) h9) | (replace h9 := znle (a := 6) (by omega) (by omega) h9) | skip)
    | (with_reducible exact zn_in (by omega) (by decide))
    | (with_reducible exact z01) | (with_reducible exact z11) | (with_reducible exact zb01 _)
    | (with_reducible exact zn_inb (by omega) (by decide))
    | (with_reducible exact zn_ina (by omega) (by decide))
    | (with_reducible exact zn_inc (by omega) (by decide))
    | ((conv => whnf); first | (with_reducible refine And.intro ?_ ?_) | ((with_reducible intro h9); first | exact absurd h9 (by decide) | (replace h9 := zle (a := 6) (by omega) (by omega) h9) | (replace h9 := znle (a := 6) (by omega) (by omega) h9) | skip) | (with_reducible refine hK _ _ _ _ (sm_un ?_)))
  · exact ⟨⟨lo2 0 (Nat.zero_le _) G1 hx hf (fun j hj => h1 j (by omega)) (fun j hj => absurd hj (Nat.not_lt_zero _))⟩⟩
  · simp only [hp_0, hp_1, hp_2, hp_3, hp_4, hp_5, hp_6, hp_7, hp_8, hp_9, hp_10, hp_11, hp_12, hp_13, hp_14, hp_15, hp_16, hp_17, hp_18, hp_19, hp_20, hp_22, hp_23, hp_24, hp_25, hp_26, hp_27, hp_28, hp_29, hp_30, hp_31, hp_32, hp_33, hp_34, hp_35, hp_36, hp_37, hp_38, hp_39, hp_40, hp_41, hp_42, hp_43, hp_44, hp_45, hp_46, hp_47, hp_48, hp_49, hf0_5, hf0_6, hf0_7, hf1_1, hf3_0, hf3_2, hf3_6, hf10_0, hf10_2, hf10_6, hf17_3, hf17_4, hf20_3, hf20_4, hf30_0, hf30_1, hf30_3, hf30_7, hf30_11, hf30_12, hf30_20, hf30_22, hf30_23, hf30_24, hf30_25, hf30_21, hf30_31, upd_su, updL_su, su_self, nI_add, zn_clI (show i < 2 ^ 31 by omega)]
    refine ⟨⟨ih ‹_› _ (eqx_su 45 _ rfl hx) hf (fun j hj => ?_)⟩⟩
    rw [su_eq, su_if]
    split
    · rename_i e
      rw [e, hx 31 rfl]
    · exact h1 j (by omega)
set_option maxRecDepth 100000 in
set_option maxHeartbeats 4000000 in
theorem s_restoreM_l (hQ : ∀ G1, eqx [30, 31, 34, 35, 36, 37] G G1 → G1 30 = su (su (G 30) 3 (G 30 24)) 7 (G 30 25) → (∀ j, j < 6 → G1 31 j = G 45 j) → (∀ j, j < 4 → G1 34 j = G 46 j) → (∀ j, j < 10 → G1 35 j = G 47 j ∧ G1 36 j = G 48 j ∧ G1 37 j = G 49 j) → Q (some (.int (G1 30 3))) (hp G1 L)) : ∀ i, i ≤ 6 → ∀ G1, eqx [30, 31, 34, 35, 36, 37] G G1 → G1 30 = su (su (G 30) 3 (G 30 24)) 7 (G 30 25) → (∀ j, j < i → G1 31 j = G 45 j) → sm_Wk 1 135 Q none 39 [some (.ref 30), some (.int (nI i))] [] (hp G1 L) := by
  have lo3 : ∀ i, i ≤ 10 → ∀ G1, eqx [30, 31, 34, 35, 36, 37] G G1 → G1 30 = su (su (G 30) 3 (G 30 24)) 7 (G 30 25) → (∀ j, j < 6 → G1 31 j = G 45 j) → (∀ j, j < 4 → G1 34 j = G 46 j) → (∀ j, j < i → G1 35 j = G 47 j ∧ G1 36 j = G 48 j ∧ G1 37 j = G 49 j) → sm_Wk 1 135 Q none 90 [some (.ref 30), some (.int (nI i))] [] (hp G1 L) := by
    refine up _ (fun i hi ih G1 hx hf h1 h4 h6 => ?_)
    refine sm_body [90] 80 sm_k135 (fun CT K hC hK => ?_)
    repeat' first
      | (with_reducible refine And.intro ?_ ?_)
      | ((with_reducible intro h9); first | exact absurd h9 (by decide) | (replace h9 := zle (a := 10) (by omega) (by omega) h9) | (replace h9 := znle (a := 10) (by omega) (by omega) h9) | skip)
      | (with_reducible exact zn_in (by omega) (by decide))
      | (with_reducible exact z01) | (with_reducible exact z11) | (with_reducible exact zb01 _)
      | (with_reducible exact zn_inb (by omega) (by decide))
      | (with_reducible exact zn_ina (by omega) (by decide))
      | (with_reducible exact zn_inc (by omega) (by decide))
      | ((conv => whnf); first | (with_reducible refine And.intro ?_ ?_) | ((with_reducible intro h9); first | exact absurd h9 (by decide) | (replace h9 := zle (a := 10) (by omega) (by omega) h9) | (replace h9 := znle (a := 10) (by omega) (by omega) h9) | skip) | (with_reducible refine hK _ _ _ _ (sm_un ?_)))
    · exact hQ G1 hx hf h1 h4 (fun j hj => h6 j (by omega))
    · simp only [hp_0, hp_1, hp_2, hp_3, hp_4, hp_5, hp_6, hp_7, hp_8, hp_9, hp_10, hp_11, hp_12, hp_13, hp_14, hp_15, hp_16, hp_17, hp_18, hp_19, hp_20, hp_22, hp_23, hp_24, hp_25, hp_26, hp_27, hp_28, hp_29, hp_30, hp_31, hp_32, hp_33, hp_34, hp_35, hp_36, hp_37, hp_38, hp_39, hp_40, hp_41, hp_42, hp_43, hp_44, hp_45, hp_46, hp_47, hp_48, hp_49, hf0_5, hf0_6, hf0_7, hf1_1, hf3_0, hf3_2, hf3_6, hf10_0, hf10_2, hf10_6, hf17_3, hf17_4, hf20_3, hf20_4, hf30_0, hf30_1, hf30_3, hf30_7, hf30_11, hf30_12, hf30_20, hf30_22, hf30_23, hf30_24, hf30_25, hf30_21, hf30_31, upd_su, updL_su, su_self, nI_add, zn_clI (show i < 2 ^ 31 by omega)]
      refine ⟨⟨ih ‹_› _ (eqx_su 37 _ rfl (eqx_su 36 _ rfl (eqx_su 35 _ rfl hx))) hf h1 h4 (fun j hj => ?_)⟩⟩
      have q : j < i → _ := h6 j
      show su (G1 35) i (G1 47 i) j = G 47 j ∧ su (G1 36) i (G1 48 i) j = G 48 j ∧ su (G1 37) i (G1 49 i) j = G 49 j
      simp only [su_if]
      split
      · rename_i e
        rw [e, hx 47 rfl, hx 48 rfl, hx 49 rfl]
        exact ⟨rfl, rfl, rfl⟩
      · exact q (by omega)
  have lo2 : ∀ i, i ≤ 4 → ∀ G1, eqx [30, 31, 34, 35, 36, 37] G G1 → G1 30 = su (su (G 30) 3 (G 30 24)) 7 (G 30 25) → (∀ j, j < 6 → G1 31 j = G 45 j) → (∀ j, j < i → G1 34 j = G 46 j) → sm_Wk 1 135 Q none 65 [some (.ref 30), some (.int (nI i))] [] (hp G1 L) := by
    refine up _ (fun i hi ih G1 hx hf h1 h4 => ?_)
    refine sm_body [65, 90] 80 sm_k135 (fun CT K hC hK => ?_)
    repeat' first
      | (with_reducible refine And.intro ?_ ?_)
      | ((with_reducible intro h9); first | exact absurd h9 (by decide) | (replace h9 := zle (a := 4) (by omega) (by omega) h9) | (replace h9 := znle (a := 4) (by omega) (by omega) h9) | skip)
      | (with_reducible exact zn_in (by omega) (by decide))
      | (with_reducible exact z01) | (with_reducible exact z11) | (with_reducible exact zb01 _)
      | (with_reducible exact zn_inb (by omega) (by decide))
      | (with_reducible exact zn_ina (by omega) (by decide))
      | (with_reducible exact zn_inc (by omega) (by decide))
      | ((conv => whnf); first | (with_reducible refine And.intro ?_ ?_) | ((with_reducible intro h9); first | exact absurd h9 (by decide) | (replace h9 := zle (a := 4) (by omega) (by omega) h9) | (replace h9 := znle (a := 4) (by omega) (by omega) h9) | skip) | (with_reducible refine hK _ _ _ _ (sm_un ?_)))
    · exact ⟨⟨lo3 0 (Nat.zero_le _) G1 hx hf h1 (fun j hj => h4 j (by omega)) (fun j hj => absurd hj (Nat.not_lt_zero _))⟩⟩
    · simp only [hp_0, hp_1, hp_2, hp_3, hp_4, hp_5, hp_6, hp_7, hp_8, hp_9, hp_10, hp_11, hp_12, hp_13, hp_14, hp_15, hp_16, hp_17, hp_18, hp_19, hp_20, hp_22, hp_23, hp_24, hp_25, hp_26, hp_27, hp_28, hp_29, hp_30, hp_31, hp_32, hp_33, hp_34, hp_35, hp_36, hp_37, hp_38, hp_39, hp_40, hp_41, hp_42, hp_43, hp_44, hp_45, hp_46, hp_47, hp_48, hp_49, hf0_5, hf0_6, hf0_7, hf1_1, hf3_0, hf3_2, hf3_6, hf10_0, hf10_2, hf10_6, hf17_3, hf17_4, hf20_3, hf20_4, hf30_0, hf30_1, hf30_3, hf30_7, hf30_11, hf30_12, hf30_20, hf30_22, hf30_23, hf30_24, hf30_25, hf30_21, hf30_31, upd_su, updL_su, su_self, nI_add, zn_clI (show i < 2 ^ 31 by omega)]
      refine ⟨⟨ih ‹_› _ (eqx_su 34 _ rfl hx) hf h1 (fun j hj => ?_)⟩⟩
      rw [su_eq, su_if]
      split
      · rename_i e
        rw [e, hx 46 rfl]
      · exact h4 j (by omega)
  refine up _ (fun i hi ih G1 hx hf h1 => ?_)
  refine sm_body [39, 65] 80 sm_k135 (fun CT K hC hK => ?_)
  repeat' first
    | (with_reducible refine And.intro ?_ ?_)
    | ((with_reducible intro h9); first | exact absurd h9 (by decide) | (replace h9 := zle (a := 6) (by omega) (by omega) h9) | (replace h9 := znle (a := 6) (by omega) (by omega) h9) | skip)
    | (with_reducible exact zn_in (by omega) (by decide))
    | (with_reducible exact z01) | (with_reducible exact z11) | (with_reducible exact zb01 _)
    | (with_reducible exact zn_inb (by omega) (by decide))
    | (with_reducible exact zn_ina (by omega) (by decide))
    | (with_reducible exact zn_inc (by omega) (by decide))
    | ((conv => whnf); first | (with_reducible refine And.intro ?_ ?_) | ((with_reducible intro h9); first | exact absurd h9 (by decide) | (replace h9 := zle (a := 6) (by omega) (by omega) h9) | (replace h9 := znle (a := 6) (by omega) (by omega) h9) | skip) | (with_reducible refine hK _ _ _ _ (sm_un ?_)))
  · exact ⟨⟨lo2 0 (Nat.zero_le _) G1 hx hf (fun j hj => h1 j (by omega)) (fun j hj => absurd hj (Nat.not_lt_zero _))⟩⟩
  · simp only [hp_0, hp_1, hp_2, hp_3, hp_4, hp_5, hp_6, hp_7, hp_8, hp_9, hp_10, hp_11, hp_12, hp_13, hp_14, hp_15, hp_16, hp_17, hp_18, hp_19, hp_20, hp_22, hp_23, hp_24, hp_25, hp_26, hp_27, hp_28, hp_29, hp_30, hp_31, hp_32, hp_33, hp_34, hp_35, hp_36, hp_37, hp_38, hp_39, hp_40, hp_41, hp_42, hp_43, hp_44, hp_45, hp_46, hp_47, hp_48, hp_49, hf0_5, hf0_6, hf0_7, hf1_1, hf3_0, hf3_2, hf3_6, hf10_0, hf10_2, hf10_6, hf17_3, hf17_4, hf20_3, hf20_4, hf30_0, hf30_1, hf30_3, hf30_7, hf30_11, hf30_12, hf30_20, hf30_22, hf30_23, hf30_24, hf30_25, hf30_21, hf30_31, upd_su, updL_su, su_self, nI_add, zn_clI (show i < 2 ^ 31 by omega)]
    refine ⟨⟨ih ‹_› _ (eqx_su 31 _ rfl hx) hf (fun j hj => ?_)⟩⟩
    rw [su_eq, su_if]
    split
    · rename_i e
      rw [e, hx 45 rfl]
    · exact h1 j (by omega)
set_option maxRecDepth 100000 in
set_option maxHeartbeats 4000000 in
theorem g_image (hC : sm_C 2 CT) (hR : RS c S) (hI : Im c S G) (hQ : ∀ G', eqx mdlP G G' → Im c (N_image S) G' → Q (some (.int (A_image S))) (hp G' L)) : CT 134 [.ref 30] (hp G L) Q := by
  obtain ⟨i1, i2, i3, i4, i5, i6, i7⟩ := id hI
  obtain ⟨e1, e2, e3, e4⟩ := id i1
  obtain ⟨hdR, hnR, -⟩ := id hR
  have r6 := hdR.1
  have r4 := hdR.2.1
  have n10 := hnR.1
  refine sm_meth hC [some (.ref 30), none] rfl rfl rfl ?_
  refine sm_body [41] 60 sm_k134 (fun CT K hC hK => ?_)
  unfold A_image N_image at hQ
  repeat' first
    | (with_reducible refine And.intro ?_ ?_)
    | ((with_reducible intro h9); first | exact absurd h9 (by decide) | ((rw [e1] at h9; replace h9 := zneq h9)) | ((rw [e1] at h9; replace h9 := zeq (by omega) (by omega) h9)) | skip)
    | (with_reducible exact zn_in (by omega) (by decide))
    | (with_reducible exact z01) | (with_reducible exact z11) | (with_reducible exact zb01 _)
    | (with_reducible exact zn_inb (by omega) (by decide))
    | (with_reducible exact zn_ina (by omega) (by decide))
    | (with_reducible exact zn_inc (by omega) (by decide))
    | ((conv => whnf); first | (with_reducible refine And.intro ?_ ?_) | ((with_reducible intro h9); first | exact absurd h9 (by decide) | ((rw [e1] at h9; replace h9 := zneq h9)) | ((rw [e1] at h9; replace h9 := zeq (by omega) (by omega) h9)) | skip) | (with_reducible refine hK _ _ _ _ (sm_un ?_)))
  · simp only [if_f h9] at hQ
    simp only [hp_0, hp_1, hp_2, hp_3, hp_4, hp_5, hp_6, hp_7, hp_8, hp_9, hp_10, hp_11, hp_12, hp_13, hp_14, hp_15, hp_16, hp_17, hp_18, hp_19, hp_20, hp_22, hp_23, hp_24, hp_25, hp_26, hp_27, hp_28, hp_29, hp_30, hp_31, hp_32, hp_33, hp_34, hp_35, hp_36, hp_37, hp_38, hp_39, hp_40, hp_41, hp_42, hp_43, hp_44, hp_45, hp_46, hp_47, hp_48, hp_49, hf0_5, hf0_6, hf0_7, hf1_1, hf3_0, hf3_2, hf3_6, hf10_0, hf10_2, hf10_6, hf17_3, hf17_4, hf20_3, hf20_4, hf30_0, hf30_1, hf30_3, hf30_7, hf30_11, hf30_12, hf30_20, hf30_22, hf30_23, hf30_24, hf30_25, hf30_21, hf30_31, upd_su, updL_su, su_self, su_eq, su_su]
    refine ⟨⟨s_imageM_l (G := G) (fun G1 hx hf h1 h4 h6 => ?_) 0 (Nat.zero_le _) _ (eqx_su 30 _ rfl eqx_rfl) rfl (fun j hj => absurd hj (Nat.not_lt_zero _))⟩⟩
    obtain ⟨b, d, b1, b2, b3, b4, b5, b6⟩ := i5
    refine zq ?_ (hQ G1 (eqx_sub rfl hx) ⟨?_, ?_, ?_, ?_, ⟨1, S 0 4, Nat.le_refl 1, Nat.le_refl _, ?_, ?_, ⟨fun _ => ⟨rfl, rfl⟩, fun _ => rfl⟩, fun _ => ⟨?_, ?_, ?_, ?_, ?_⟩⟩, ?_, ?_⟩)
    · rw [hf]; exact e2
    · refine mD_sim (S := S) ⟨rfl, rfl, rfl, rfl, rfl, rfl, rfl, rfl, rfl, rfl⟩ ?_
      unfold mD
      rw [hf, hx 31 rfl, hx 32 rfl, hx 33 rfl, hx 34 rfl]
      exact i1
    · refine mS_sim (S := S) ⟨rfl, rfl, rfl, rfl, rfl, rfl, rfl, rfl, rfl, rfl⟩ ?_
      unfold mS
      rw [hf, hx 35 rfl, hx 36 rfl, hx 37 rfl]
      exact i2
    · unfold mP
      rw [hf, hx 38 rfl]
      exact i3
    · unfold mQ
      rw [hf]
      exact i4
    · rw [hf]; rfl
    · rw [hf]; exact i4.1
    · rw [hf]; exact e2
    · rw [hf]; exact i2.1
    · intro i hi
      have hi : i < S 0 0 := hi
      rw [h1 i (by omega)]; exact e3 i hi
    · intro i hi
      have hi : i < S 0 1 := hi
      rw [h4 i (by omega)]; exact (e4 i hi).2.2
    · intro k hk
      have hk : k < S 0 2 := hk
      have q := h6 k (by omega)
      rw [q.1, q.2.1, q.2.2]
      exact i2.2 k hk
    · unfold mH
      rw [hf, hx 44 rfl]
      exact i6
    · unfold pA
      rw [hx 40 rfl]
      exact i7
  · simp only [if_t h9] at hQ
    exact hQ G eqx_rfl hI
set_option maxRecDepth 100000 in
set_option maxHeartbeats 4000000 in
theorem g_restore (hC : sm_C 2 CT) (hR : RS c S) (hI : Im c S G) (hc : c < 2 ^ 30) (hQ : ∀ G', eqx mdlP G G' → Im c (N_restore S) G' → Q (some (.int (A_restore S))) (hp G' L)) : CT 135 [.ref 30] (hp G L) Q := by
  obtain ⟨i1, i2, i3, i4, i5, i6, i7⟩ := id hI
  obtain ⟨e1, e2, e3, e4⟩ := id i1
  obtain ⟨b, d, b1, b2, b3, b4, b5, b6⟩ := id i5
  have r5 := hR.2.2.2.2.1
  refine sm_meth hC [some (.ref 30), none] rfl rfl rfl ?_
  refine sm_body [39] 60 sm_k135 (fun CT K hC hK => ?_)
  unfold A_restore N_restore at hQ
  repeat' first
    | (with_reducible refine And.intro ?_ ?_)
    | ((with_reducible intro h9); first | exact absurd h9 (by decide) | ((rw [b3] at h9; replace h9 := zneq h9)) | ((rw [b3] at h9; replace h9 := zeq (by omega) (by omega) h9)) | ((rw [b4, i4.1] at h9; replace h9 := zneq h9)) | ((rw [b4, i4.1] at h9; replace h9 := zeq (by omega) (by omega) h9)) | skip)
    | (with_reducible exact zn_in (by omega) (by decide))
    | (with_reducible exact z01) | (with_reducible exact z11) | (with_reducible exact zb01 _)
    | (with_reducible exact zn_inb (by omega) (by decide))
    | (with_reducible exact zn_ina (by omega) (by decide))
    | (with_reducible exact zn_inc (by omega) (by decide))
    | ((conv => whnf); first | (with_reducible refine And.intro ?_ ?_) | ((with_reducible intro h9); first | exact absurd h9 (by decide) | ((rw [b3] at h9; replace h9 := zneq h9)) | ((rw [b3] at h9; replace h9 := zeq (by omega) (by omega) h9)) | ((rw [b4, i4.1] at h9; replace h9 := zneq h9)) | ((rw [b4, i4.1] at h9; replace h9 := zeq (by omega) (by omega) h9)) | skip) | (with_reducible refine hK _ _ _ _ (sm_un ?_)))
  · have hk : ¬ S 0 6 = 1 := fun e => by have := (b5.mp e).1; omega
    simp only [if_f hk] at hQ
    exact hQ G eqx_rfl hI
  · have hk : S 0 6 = 1 := b5.mpr ⟨by omega, h9⟩
    simp only [if_t hk] at hQ
    obtain ⟨k1, k2, k3, k4, k5⟩ := b6 hk
    obtain ⟨u1, u2, u3, u4⟩ := hR.2.2.2.2.2.2.2.2 hk
    have r6 : S 0 0 ≤ 6 := u3.1
    have r4 : S 0 7 ≤ 4 := u3.2.1
    have r10 : S 0 8 ≤ 10 := u4.1
    simp only [hp_0, hp_1, hp_2, hp_3, hp_4, hp_5, hp_6, hp_7, hp_8, hp_9, hp_10, hp_11, hp_12, hp_13, hp_14, hp_15, hp_16, hp_17, hp_18, hp_19, hp_20, hp_22, hp_23, hp_24, hp_25, hp_26, hp_27, hp_28, hp_29, hp_30, hp_31, hp_32, hp_33, hp_34, hp_35, hp_36, hp_37, hp_38, hp_39, hp_40, hp_41, hp_42, hp_43, hp_44, hp_45, hp_46, hp_47, hp_48, hp_49, hf0_5, hf0_6, hf0_7, hf1_1, hf3_0, hf3_2, hf3_6, hf10_0, hf10_2, hf10_6, hf17_3, hf17_4, hf20_3, hf20_4, hf30_0, hf30_1, hf30_3, hf30_7, hf30_11, hf30_12, hf30_20, hf30_22, hf30_23, hf30_24, hf30_25, hf30_21, hf30_31, upd_su, updL_su, su_self, su_eq, su_su]
    refine ⟨⟨s_restoreM_l (G := G) (fun G1 hx hf h1 h4 h6 => ?_) 0 (Nat.zero_le _) _ (eqx_su 30 _ rfl eqx_rfl) rfl (fun j hj => absurd hj (Nat.not_lt_zero _))⟩⟩
    refine zq ?_ (hQ G1 (eqx_sub rfl hx) ⟨⟨?_, ?_, ?_, ?_⟩, ⟨?_, ?_⟩, ?_, ?_, ⟨b, d, b1, b2, ?_, ?_, b5, fun _ => ⟨?_, ?_, ?_, ?_, ?_⟩⟩, ?_, ?_⟩)
    · rw [hf]; exact k1
    · rw [hf]; exact e1
    · rw [hf]; exact k1
    · intro i hi
      have hi : i < S 0 0 := hi
      rw [h1 i (by omega)]; exact k3 i hi
    · intro i hi
      have hi : i < S 0 7 := hi
      rw [hx 32 rfl, hx 33 rfl, h4 i (by omega)]
      exact ⟨(e4 i (by omega)).1, (e4 i (by omega)).2.1, k4 i hi⟩
    · rw [hf]; exact k2
    · intro k hk
      have hk : k < S 0 8 := hk
      have q := h6 k (by omega)
      rw [q.1, q.2.1, q.2.2]
      exact k5 k hk
    · unfold mP
      rw [hf, hx 38 rfl]
      exact i3
    · unfold mQ
      rw [hf]
      exact i4
    · rw [hf]; exact b3
    · rw [hf]; exact b4
    · rw [hf]; exact k1
    · rw [hf]; exact k2
    · rw [hx 45 rfl]; exact k3
    · rw [hx 46 rfl]; exact k4
    · rw [hx 47 rfl, hx 48 rfl, hx 49 rfl]; exact k5
    · unfold mH
      rw [hf, hx 44 rfl]
      exact i6
    · unfold pA
      rw [hx 40 rfl]
      exact i7
  · have hk : ¬ S 0 6 = 1 := fun e => h9 (b5.mp e).2
    simp only [if_f hk] at hQ
    exact hQ G eqx_rfl hI
end MOVES5
end
section
/-! The page read: fault, day. -/
def dw (c : Nat) : Nat := if c = 110 then 0 else if c = 101 then 1 else if c = 115 then 2 else if c = 119 then 3 else 4
def good (c : Nat) : Bool := Nat.beq c 63 || (decide (dw c < 4))
def lead (P : Nat → Bool) : Nat → Nat
  | 0 => 0
  | n + 1 => if lead P n = n ∧ P n = true then n + 1 else lead P n
theorem lead_le {P : Nat → Bool} : ∀ n, lead P n ≤ n
  | 0 => Nat.le_refl 0
  | n + 1 => by
    have := lead_le (P := P) n
    rw [lead]
    split
    · exact Nat.le_refl _
    · omega
theorem lead_all {P : Nat → Bool} : ∀ n, (∀ j, j < n → P j = true) → lead P n = n
  | 0, _ => rfl
  | n + 1, h => by
    rw [lead]
    exact if_t ⟨lead_all n (fun j hj => h j (by omega)), h n (by omega)⟩
theorem lead_eq {P : Nat → Bool} {i : Nat} (h : ∀ j, j < i → P j = true) (hf : P i = false) : ∀ n, i ≤ n → lead P n = i
  | 0, hn => by
    have : i = 0 := by omega
    subst this
    rfl
  | n + 1, hn => by
    by_cases e : i = n + 1
    · subst e
      exact lead_all _ h
    · have ih := lead_eq h hf n (by omega)
      rw [lead]
      by_cases e2 : i = n
      · subst e2
        exact (if_f (fun z => by rw [hf] at z; exact absurd z.2 (by decide))).trans ih
      · exact (if_f (fun z => by omega)).trans ih
theorem lead_ok {P : Nat → Bool} : ∀ n, ∀ j, j < lead P n → P j = true
  | 0, j, h => absurd h (Nat.not_lt_zero _)
  | n + 1, j, h => by
    rw [lead] at h
    split at h
    · rename_i h2
      by_cases e : j = n
      · rw [e]; exact h2.2
      · exact lead_ok n j (by omega)
    · exact lead_ok n j h
def gp (S : Nat → Nat → Nat) (i : Nat) : Bool := decide (i < S 0 3 ∧ i < 6) && good (S 5 i)
def fa (S : Nat → Nat → Nat) : Nat := lead (gp S) 8
section DAY
variable {CT : sm_CT} {G : Nat → Nat → Int32} {L : Nat → Nat → Int64} {Q : sm_Q} {S : Nat → Nat → Nat} {c : Nat} {h : sm_H}
set_option maxRecDepth 100000 in
set_option maxHeartbeats 4000000 in
theorem s_windOf (hC : sm_C 1 CT) {x : Nat} (hx : x ≤ 126) (hQ : Q (some (.int (wI (dw x)))) h) : CT 25 [.int (nI x)] h Q := by
  refine sm_meth hC [some (.int (nI x))] rfl rfl rfl ?_
  refine sm_body [] 60 sm_k25 (fun CT K hC hK => ?_)
  have ez : ∀ k, nI x = (nI k, 0).1 → k < 1000 → x = k := fun k h hk => zeq (by omega) (by omega) h
  repeat' first
    | (with_reducible refine And.intro ?_ ?_)
    | ((with_reducible intro h9); first | exact absurd h9 (by decide) | skip)
    | (with_reducible exact zn_in (by omega) (by decide))
    | (with_reducible exact z01) | (with_reducible exact z11) | (with_reducible exact zb01 _)
    | (with_reducible exact zn_inb (by omega) (by decide))
    | (with_reducible exact zn_ina (by omega) (by decide))
    | (with_reducible exact zn_inc (by omega) (by decide))
    | ((conv => whnf); first | (with_reducible refine And.intro ?_ ?_) | ((with_reducible intro h9); first | exact absurd h9 (by decide) | skip) | (with_reducible refine hK _ _ _ _ (sm_un ?_)))
  · have e : x = 101 := zeq (by omega) (by omega) h9
    subst e
    exact hQ
  · have e : x = 110 := zeq (by omega) (by omega) h9
    subst e
    exact hQ
  · have e : x = 115 := zeq (by omega) (by omega) h9
    subst e
    exact hQ
  · have e : x = 119 := zeq (by omega) (by omega) h9
    subst e
    exact hQ
  · have n1 : x ≠ 101 := zneq ‹¬ nI x = (nI 101, 46).fst›
    have n2 : x ≠ 110 := zneq ‹¬ nI x = (nI 110, 44).fst›
    have n3 : x ≠ 115 := zneq ‹¬ nI x = (nI 115, 48).fst›
    have n4 : x ≠ 119 := zneq ‹¬ nI x = (nI 119, 50).fst›
    refine zq ?_ hQ
    unfold dw
    rw [if_f n2, if_f n1, if_f n3, if_f n4]
    rfl
set_option maxRecDepth 100000 in
set_option maxHeartbeats 4000000 in
theorem s_isOfDay (hC : sm_C 2 CT) {x : Nat} (hx : x ≤ 126) (hQ : Q (some (.int (sm_b (good x)))) h) : CT 24 [.int (nI x)] h Q := by
  refine sm_meth hC [some (.int (nI x))] rfl rfl rfl ?_
  refine sm_body [] 60 sm_k24 (fun CT K hC hK => ?_)
  have d4 : dw x ≤ 4 := by
    unfold dw
    repeat' split
    all_goals omega
  repeat' first
    | (with_reducible refine And.intro ?_ ?_)
    | ((with_reducible intro h9); first | exact absurd h9 (by decide) | (rw [wI_m d4] at h9) | skip)
    | (with_reducible exact zn_in (by omega) (by decide))
    | (with_reducible exact z01) | (with_reducible exact z11) | (with_reducible exact zb01 _)
    | (with_reducible exact zn_inb (by omega) (by decide))
    | (with_reducible exact zn_ina (by omega) (by decide))
    | (with_reducible exact zn_inc (by omega) (by decide))
    | ((conv => whnf); first | (with_reducible refine And.intro ?_ ?_) | ((with_reducible intro h9); first | exact absurd h9 (by decide) | (rw [wI_m d4] at h9) | skip) | (with_reducible refine hK _ _ _ _ (sm_un ?_)) | (with_reducible refine s_windOf (hC.mono (by omega)) hx ?_))
  · have e : x = 63 := zeq (by omega) (by omega) h9
    subst e
    exact hQ
  · have n : x ≠ 63 := zneq ‹¬ nI x = nI 63›
    refine zq (b_f ?_) hQ
    unfold good
    rw [beq_f n, decide_eq_false (by omega)]
    rfl
  · refine zq (b_t ?_) hQ
    unfold good
    rw [decide_eq_true (show dw x < 4 by omega), Bool.or_true]
set_option maxRecDepth 100000 in
set_option maxHeartbeats 4000000 in
theorem s_windBy (hC : sm_C 1 CT) {x : Nat} (hx : x ≤ 126) (hQ : Q (some (.int (cond (good x) (wI (dw x)) (-2)))) h) : CT 84 [.int (nI x)] h Q := by
  refine sm_meth hC [some (.int (nI x))] rfl rfl rfl ?_
  refine sm_body [] 60 sm_k84 (fun CT K hC hK => ?_)
  repeat' first
    | (with_reducible refine And.intro ?_ ?_)
    | ((with_reducible intro h9); first | exact absurd h9 (by decide) | skip)
    | (with_reducible exact zn_in (by omega) (by decide))
    | (with_reducible exact z01) | (with_reducible exact z11) | (with_reducible exact zb01 _)
    | (with_reducible exact zn_inb (by omega) (by decide))
    | (with_reducible exact zn_ina (by omega) (by decide))
    | (with_reducible exact zn_inc (by omega) (by decide))
    | ((conv => whnf); first | (with_reducible refine And.intro ?_ ?_) | ((with_reducible intro h9); first | exact absurd h9 (by decide) | skip) | (with_reducible refine hK _ _ _ _ (sm_un ?_)))
  · have e : x = 63 := zeq (by omega) (by omega) h9
    subst e
    exact hQ
  · have e : x = 101 := zeq (by omega) (by omega) h9
    subst e
    exact hQ
  · have e : x = 110 := zeq (by omega) (by omega) h9
    subst e
    exact hQ
  · have e : x = 115 := zeq (by omega) (by omega) h9
    subst e
    exact hQ
  · have e : x = 119 := zeq (by omega) (by omega) h9
    subst e
    exact hQ
  · have n0 : x ≠ 63 := zneq ‹¬ nI x = (nI 63, 60).fst›
    have n1 : x ≠ 101 := zneq ‹¬ nI x = (nI 101, 54).fst›
    have n2 : x ≠ 110 := zneq ‹¬ nI x = (nI 110, 52).fst›
    have n3 : x ≠ 115 := zneq ‹¬ nI x = (nI 115, 56).fst›
    have n4 : x ≠ 119 := zneq ‹¬ nI x = (nI 119, 58).fst›
    refine zq ?_ hQ
    have e : good x = false := by
      unfold good dw
      rw [if_f n2, if_f n1, if_f n3, if_f n4, beq_f n0]
      rfl
    rw [e]
    rfl
theorem gp_f {i : Nat} (h : ¬ (i < S 0 3 ∧ i < 6)) : gp S i = false := by
  unfold gp
  rw [decide_eq_false h]
  rfl
theorem gp_g {i : Nat} (h : i < S 0 3 ∧ i < 6) : gp S i = good (S 5 i) := by
  unfold gp
  rw [decide_eq_true h]
  rfl
theorem wI_2 {n : Nat} (h : n ≤ 4) : ¬ wI n = -2 := by
  have : n = 0 ∨ n = 1 ∨ n = 2 ∨ n = 3 ∨ n = 4 := by omega
  rcases this with rfl | rfl | rfl | rfl | rfl <;> decide
theorem dw_le (x : Nat) : dw x ≤ 4 := by
  unfold dw
  repeat' split
  all_goals omega
set_option maxRecDepth 100000 in
set_option maxHeartbeats 4000000 in
theorem s_firstFault (hC : sm_C 3 CT) (hP : cP S G) (r8 : S 0 3 ≤ 8) (rc : ∀ i, i < S 0 3 → 32 ≤ S 5 i ∧ S 5 i ≤ 126) (hQ : Q (some (.int (nI (fa S)))) (hp G L)) : CT 23 [.ref 1] (hp G L) Q := by
  obtain ⟨e1, e2⟩ := hP
  refine sm_meth hC [some (.ref 1), none] rfl rfl rfl ?_
  have lo : ∀ i, i ≤ S 0 3 → (∀ j, j < i → gp S j = true) → sm_Wk 2 23 Q none 2 [some (.ref 1), some (.int (nI i))] [] (hp G L) := by
    refine up _ (fun i hi ih hg => ?_)
    refine sm_body [2] 60 sm_k23 (fun CT K hC hK => ?_)
    repeat' first
      | (with_reducible refine And.intro ?_ ?_)
      | ((with_reducible intro h9); first | exact absurd h9 (by decide) | (replace h9 := nle e1 (by omega) (by omega) h9) | (replace h9 := yle e1 (by omega) (by omega) h9) | (replace h9 := zle (a := 6) (by omega) (by omega) h9) | (replace h9 := znle (a := 6) (by omega) (by omega) h9) | (replace h9 := sb_f h9) | (replace h9 := sb_t h9) | skip)
      | (with_reducible exact zn_in (by omega) (by decide))
      | (with_reducible exact z01) | (with_reducible exact z11) | (with_reducible exact zb01 _)
      | (with_reducible exact zn_inb (by omega) (by decide))
      | (with_reducible exact zn_ina (by omega) (by decide))
      | (with_reducible exact zn_inc (by omega) (by decide))
      | ((conv => whnf); first | (with_reducible refine And.intro ?_ ?_) | ((with_reducible intro h9); first | exact absurd h9 (by decide) | (replace h9 := nle e1 (by omega) (by omega) h9) | (replace h9 := yle e1 (by omega) (by omega) h9) | (replace h9 := zle (a := 6) (by omega) (by omega) h9) | (replace h9 := znle (a := 6) (by omega) (by omega) h9) | (replace h9 := sb_f h9) | (replace h9 := sb_t h9) | skip) | (with_reducible refine hK _ _ _ _ (sm_un ?_)) | ((rw [zn_clI (show i < 2 ^ 31 by omega), e2 i ‹_›]; refine s_isOfDay (hC.mono (by omega)) (rc i ‹_›).2 ?_)))
    · obtain rfl : i = S 0 3 := by omega
      refine zq ?_ hQ
      rw [e1]
      exact nI_i (lead_eq hg (gp_f (by omega)) 8 (by omega)).symm
    · exact zq (nI_i (lead_eq hg (gp_f (by omega)) 8 (by omega)).symm) hQ
    · simp only [nI_add]; exact ⟨⟨ih ‹_› (fun j hj => if e : j = i then (by subst e; rw [gp_g (by omega)]; exact h9) else hg j (by omega))⟩⟩
    · exact zq (nI_i (lead_eq hg ((gp_g ⟨by omega, by omega⟩).trans h9) 8 (by omega)).symm) hQ
  refine sm_body [2] 60 sm_k23 (fun CT K hC hK => ?_)
  repeat' first
    | (with_reducible refine And.intro ?_ ?_)
    | ((with_reducible intro h9); first | exact absurd h9 (by decide) | skip)
    | (with_reducible exact zn_in (by omega) (by decide))
    | (with_reducible exact z01) | (with_reducible exact z11) | (with_reducible exact zb01 _)
    | (with_reducible exact zn_inb (by omega) (by decide))
    | (with_reducible exact zn_ina (by omega) (by decide))
    | (with_reducible exact zn_inc (by omega) (by decide))
    | ((conv => whnf); first | (with_reducible refine And.intro ?_ ?_) | ((with_reducible intro h9); first | exact absurd h9 (by decide) | skip) | (with_reducible refine hK _ _ _ _ (sm_un ?_)))
  exact ⟨⟨lo 0 (Nat.zero_le _) (fun j hj => absurd hj (Nat.not_lt_zero _))⟩⟩
set_option maxRecDepth 100000 in
set_option maxHeartbeats 4000000 in
theorem s_faultNow (hC : sm_C 2 CT) (hP : mP S G) (r8 : S 0 3 ≤ 8) (rc : ∀ i, i < S 0 3 → 32 ≤ S 5 i ∧ S 5 i ≤ 126) (hQ : Q (some (.int (nI (fa S)))) (hp G L)) : CT 85 [.ref 30] (hp G L) Q := by
  obtain ⟨e1, e2⟩ := hP
  refine sm_meth hC [some (.ref 30), none] rfl rfl rfl ?_
  have lo : ∀ i, i ≤ S 0 3 → (∀ j, j < i → gp S j = true) → sm_Wk 1 85 Q none 2 [some (.ref 30), some (.int (nI i))] [] (hp G L) := by
    refine up _ (fun i hi ih hg => ?_)
    refine sm_body [2] 60 sm_k85 (fun CT K hC hK => ?_)
    repeat' first
      | (with_reducible refine And.intro ?_ ?_)
      | ((with_reducible intro h9); first | exact absurd h9 (by decide) | (replace h9 := nle e1 (by omega) (by omega) h9) | (replace h9 := yle e1 (by omega) (by omega) h9) | (replace h9 := zle (a := 6) (by omega) (by omega) h9) | (replace h9 := znle (a := 6) (by omega) (by omega) h9) | skip)
      | (with_reducible exact zn_in (by omega) (by decide))
      | (with_reducible exact z01) | (with_reducible exact z11) | (with_reducible exact zb01 _)
      | (with_reducible exact zn_inb (by omega) (by decide))
      | (with_reducible exact zn_ina (by omega) (by decide))
      | (with_reducible exact zn_inc (by omega) (by decide))
      | ((conv => whnf); first | (with_reducible refine And.intro ?_ ?_) | ((with_reducible intro h9); first | exact absurd h9 (by decide) | (replace h9 := nle e1 (by omega) (by omega) h9) | (replace h9 := yle e1 (by omega) (by omega) h9) | (replace h9 := zle (a := 6) (by omega) (by omega) h9) | (replace h9 := znle (a := 6) (by omega) (by omega) h9) | skip) | (with_reducible refine hK _ _ _ _ (sm_un ?_)) | ((rw [zn_clI (show i < 2 ^ 31 by omega), e2 i ‹_›]; refine s_windBy (hC.mono (by omega)) (rc i ‹_›).2 ?_)))
    · obtain rfl : i = S 0 3 := by omega
      exact zq (nI_i (lead_eq hg (gp_f (by omega)) 8 (by omega)).symm) hQ
    · exact zq (nI_i (lead_eq hg (gp_f (by omega)) 8 (by omega)).symm) hQ
    · have e : good (S 5 i) = false := by
        cases hb : good (S 5 i) with
        | false => rfl
        | true => rw [hb] at h9; exact absurd h9 (wI_2 (dw_le _))
      exact zq (nI_i (lead_eq hg ((gp_g ⟨by omega, by omega⟩).trans e) 8 (by omega)).symm) hQ
    · have e : good (S 5 i) = true := by
        cases hb : good (S 5 i) with
        | true => rfl
        | false => rw [hb] at h9; exact absurd rfl h9
      simp only [nI_add]; exact ⟨⟨ih ‹_› (fun j hj => if e2 : j = i then (by subst e2; rw [gp_g (by omega)]; exact e) else hg j (by omega))⟩⟩
  refine sm_body [2] 60 sm_k85 (fun CT K hC hK => ?_)
  repeat' first
    | (with_reducible refine And.intro ?_ ?_)
    | ((with_reducible intro h9); first | exact absurd h9 (by decide) | skip)
    | (with_reducible exact zn_in (by omega) (by decide))
    | (with_reducible exact z01) | (with_reducible exact z11) | (with_reducible exact zb01 _)
    | (with_reducible exact zn_inb (by omega) (by decide))
    | (with_reducible exact zn_ina (by omega) (by decide))
    | (with_reducible exact zn_inc (by omega) (by decide))
    | ((conv => whnf); first | (with_reducible refine And.intro ?_ ?_) | ((with_reducible intro h9); first | exact absurd h9 (by decide) | skip) | (with_reducible refine hK _ _ _ _ (sm_un ?_)))
  exact ⟨⟨lo 0 (Nat.zero_le _) (fun j hj => absurd hj (Nat.not_lt_zero _))⟩⟩
set_option maxRecDepth 100000 in
set_option maxHeartbeats 4000000 in
theorem f_fault (hC : sm_C 4 CT) (hR : RS c S) (hI : Ic S G) (hQ : Q (some (.int (nI (fa S)))) (hp G L)) : CT 44 [.ref 0] (hp G L) Q := by
  refine sm_meth hC [some (.ref 0)] rfl rfl rfl ?_
  have hP := hI.2.1
  have r8 := hR.2.2.1
  have rc := hR.2.2.2.1
  refine sm_body [] 60 sm_k44 (fun CT K hC hK => ?_)
  repeat' first
    | (with_reducible refine And.intro ?_ ?_)
    | ((with_reducible intro h9); first | exact absurd h9 (by decide) | skip)
    | (with_reducible exact zn_in (by omega) (by decide))
    | (with_reducible exact z01) | (with_reducible exact z11) | (with_reducible exact zb01 _)
    | (with_reducible exact zn_inb (by omega) (by decide))
    | (with_reducible exact zn_ina (by omega) (by decide))
    | (with_reducible exact zn_inc (by omega) (by decide))
    | ((conv => whnf); first | (with_reducible refine And.intro ?_ ?_) | ((with_reducible intro h9); first | exact absurd h9 (by decide) | skip) | (with_reducible refine hK _ _ _ _ (sm_un ?_)) | (with_reducible refine s_firstFault (hC.mono (by omega)) hP r8 rc ?_))
  exact hQ
set_option maxRecDepth 100000 in
set_option maxHeartbeats 4000000 in
theorem g_fault (hC : sm_C 3 CT) (hR : RS c S) (hI : Im c S G) (hQ : Q (some (.int (nI (fa S)))) (hp G L)) : CT 86 [.ref 30] (hp G L) Q := by
  refine sm_meth hC [some (.ref 30)] rfl rfl rfl ?_
  have hP := hI.2.2.1
  have r8 := hR.2.2.1
  have rc := hR.2.2.2.1
  refine sm_body [] 60 sm_k86 (fun CT K hC hK => ?_)
  repeat' first
    | (with_reducible refine And.intro ?_ ?_)
    | ((with_reducible intro h9); first | exact absurd h9 (by decide) | skip)
    | (with_reducible exact zn_in (by omega) (by decide))
    | (with_reducible exact z01) | (with_reducible exact z11) | (with_reducible exact zb01 _)
    | (with_reducible exact zn_inb (by omega) (by decide))
    | (with_reducible exact zn_ina (by omega) (by decide))
    | (with_reducible exact zn_inc (by omega) (by decide))
    | ((conv => whnf); first | (with_reducible refine And.intro ?_ ?_) | ((with_reducible intro h9); first | exact absurd h9 (by decide) | skip) | (with_reducible refine hK _ _ _ _ (sm_un ?_)) | (with_reducible refine s_faultNow (hC.mono (by omega)) hP r8 rc ?_))
  exact hQ
def dayS (S : Nat → Nat → Nat) : Nat → Nat → Nat := fun p => match p with
  | 0 => su (su (su (su (su (su (S 0) 0 (S 0 3)) 1 0) 2 0) 3 0) 4 (S 0 4 + 1)) 6 0
  | 1 => fun i => dw (S 5 i)
  | _ => S p
def okDay (S : Nat → Nat → Nat) : Prop := S 0 3 ≠ 0 ∧ fa S = S 0 3
def A_day (S : Nat → Nat → Nat) : Int32 := if S 0 3 = 0 ∨ fa S ≠ S 0 3 then -103 else nI (S 0 3)
def N_day (S : Nat → Nat → Nat) : Nat → Nat → Nat := if S 0 3 = 0 ∨ fa S ≠ S 0 3 then S else dayS S
theorem fa_le : fa S ≤ S 0 3 := by
  unfold fa
  have key : ∀ n, lead (gp S) n ≤ S 0 3 := by
    intro n
    induction n with
    | zero => exact Nat.zero_le _
    | succ n ih =>
      rw [lead]
      split
      · rename_i h
        have h2 := h.2
        unfold gp at h2
        simp only [Bool.and_eq_true, decide_eq_true_eq] at h2
        omega
      · exact ih
  exact key 8
theorem fa_6 : fa S ≤ 6 := by
  unfold fa
  have key : ∀ n, lead (gp S) n ≤ 6 := by
    intro n
    induction n with
    | zero => exact Nat.zero_le _
    | succ n ih =>
      rw [lead]
      split
      · rename_i h
        have h2 := h.2
        unfold gp at h2
        simp only [Bool.and_eq_true, decide_eq_true_eq] at h2
        omega
      · exact ih
  exact key 8
set_option maxRecDepth 100000 in
set_option maxHeartbeats 4000000 in
theorem s_begin (hC : sm_C 3 CT) (hP : cP S G) (r6 : S 0 3 ≤ 6) (rc : ∀ i, i < S 0 3 → 32 ≤ S 5 i ∧ S 5 i ≤ 126) (hQ : ∀ G1, eqx [3, 4, 8, 9] G G1 → G1 3 0 = nI (S 0 3) → G1 3 2 = nI 0 → G1 3 6 = nI 0 → (∀ i, i < S 0 3 → G1 4 i = wI (dw (S 5 i))) → (∀ v, v < 4 → G1 8 v = nI 0) → (∀ i, i < 24 → G1 9 i = nI 15) → Q none (hp G1 L)) : CT 3 [.ref 3, .ref 1] (hp G L) Q := by
  obtain ⟨e1, e2⟩ := id hP
  refine sm_meth hC [some (.ref 3), some (.ref 1), none] rfl rfl rfl ?_
  have lo : ∀ i, i ≤ S 0 3 → ∀ G1, eqx [3, 4] G G1 → G1 3 0 = nI (S 0 3) → (∀ j, j < i → G1 4 j = wI (dw (S 5 j))) → sm_Wk 2 3 Q none 24 [some (.ref 3), some (.ref 1), some (.int (nI i))] [] (hp G1 L) := by
    refine up _ (fun i hi ih G1 hx h0 h1 => ?_)
    have e2' := fun hl : i < S 0 3 => e2 i hl
    refine sm_body [24] 60 sm_k3 (fun CT K hC hK => ?_)
    repeat' first
      | (with_reducible refine And.intro ?_ ?_)
      | ((with_reducible intro h9); first | exact absurd h9 (by decide) | (replace h9 := nle h0 (by omega) (by omega) h9) | (replace h9 := yle h0 (by omega) (by omega) h9) | skip)
      | (with_reducible exact zn_in (by omega) (by decide))
      | (with_reducible exact z01) | (with_reducible exact z11) | (with_reducible exact zb01 _)
      | (with_reducible exact zn_inb (by omega) (by decide))
      | (with_reducible exact zn_ina (by omega) (by decide))
      | (with_reducible exact zn_inc (by omega) (by decide))
      | ((conv => whnf); first | (with_reducible refine And.intro ?_ ?_) | ((with_reducible intro h9); first | exact absurd h9 (by decide) | (replace h9 := nle h0 (by omega) (by omega) h9) | (replace h9 := yle h0 (by omega) (by omega) h9) | skip) | (with_reducible refine hK _ _ _ _ (sm_un ?_)) | ((rw [zn_clI (show i < 2 ^ 31 by omega), hx 2 rfl, e2 i ‹_›]; refine s_windOf (hC.mono (by omega)) (rc i ‹_›).2 ?_)) | ((simp only [hp_0, hp_1, hp_2, hp_3, hp_4, hp_5, hp_6, hp_7, hp_8, hp_9, hp_10, hp_11, hp_12, hp_13, hp_14, hp_15, hp_16, hp_17, hp_18, hp_19, hp_20, hp_22, hp_23, hp_24, hp_25, hp_26, hp_27, hp_28, hp_29, hp_30, hp_31, hp_32, hp_33, hp_34, hp_35, hp_36, hp_37, hp_38, hp_39, hp_40, hp_41, hp_42, hp_43, hp_44, hp_45, hp_46, hp_47, hp_48, hp_49, hf0_5, hf0_6, hf0_7, hf1_1, hf3_0, hf3_2, hf3_6, hf10_0, hf10_2, hf10_6, hf17_3, hf17_4, hf20_3, hf20_4, hf30_0, hf30_1, hf30_3, hf30_7, hf30_11, hf30_12, hf30_20, hf30_22, hf30_23, hf30_24, hf30_25, hf30_21, hf30_31, upd_su, updL_su]; refine s_clearSeen (hC.mono (by omega)) (fun x y hx2 hy2 => ?_))))
    · obtain rfl : i = S 0 3 := by omega
      refine hQ _ ?_ ?_ rfl rfl ?_ ?_ ?_
      · exact eqx_su 9 _ rfl (eqx_su 8 _ rfl (eqx_su 3 _ rfl (eqx_su 3 _ rfl (eqx_sub rfl hx))))
      · exact h0
      · exact h1
      · exact hx2
      · exact hy2
    · simp only [hp_0, hp_1, hp_2, hp_3, hp_4, hp_5, hp_6, hp_7, hp_8, hp_9, hp_10, hp_11, hp_12, hp_13, hp_14, hp_15, hp_16, hp_17, hp_18, hp_19, hp_20, hp_22, hp_23, hp_24, hp_25, hp_26, hp_27, hp_28, hp_29, hp_30, hp_31, hp_32, hp_33, hp_34, hp_35, hp_36, hp_37, hp_38, hp_39, hp_40, hp_41, hp_42, hp_43, hp_44, hp_45, hp_46, hp_47, hp_48, hp_49, hf0_5, hf0_6, hf0_7, hf1_1, hf3_0, hf3_2, hf3_6, hf10_0, hf10_2, hf10_6, hf17_3, hf17_4, hf20_3, hf20_4, hf30_0, hf30_1, hf30_3, hf30_7, hf30_11, hf30_12, hf30_20, hf30_22, hf30_23, hf30_24, hf30_25, hf30_21, hf30_31, upd_su, updL_su, nI_add, zn_clI (show i < 2 ^ 31 by omega)]
      refine ⟨⟨ih ‹_› _ (eqx_su 4 _ rfl hx) h0 (fun j hj => ?_)⟩⟩
      rw [su_eq, su_if]
      split
      · rename_i e
        rw [e]
      · exact h1 j (by omega)
  refine sm_body [24] 60 sm_k3 (fun CT K hC hK => ?_)
  repeat' first
    | (with_reducible refine And.intro ?_ ?_)
    | ((with_reducible intro h9); first | exact absurd h9 (by decide) | ((rw [e1] at h9; replace h9 := zle (a := 6) (by omega) (by omega) h9)) | ((rw [e1] at h9; replace h9 := znle (a := 6) (by omega) (by omega) h9)) | skip)
    | (with_reducible exact zn_in (by omega) (by decide))
    | (with_reducible exact z01) | (with_reducible exact z11) | (with_reducible exact zb01 _)
    | (with_reducible exact zn_inb (by omega) (by decide))
    | (with_reducible exact zn_ina (by omega) (by decide))
    | (with_reducible exact zn_inc (by omega) (by decide))
    | ((conv => whnf); first | (with_reducible refine And.intro ?_ ?_) | ((with_reducible intro h9); first | exact absurd h9 (by decide) | ((rw [e1] at h9; replace h9 := zle (a := 6) (by omega) (by omega) h9)) | ((rw [e1] at h9; replace h9 := znle (a := 6) (by omega) (by omega) h9)) | skip) | (with_reducible refine hK _ _ _ _ (sm_un ?_)))
  · have h3 : S 0 3 = 6 := by omega
    simp only [hp_0, hp_1, hp_2, hp_3, hp_4, hp_5, hp_6, hp_7, hp_8, hp_9, hp_10, hp_11, hp_12, hp_13, hp_14, hp_15, hp_16, hp_17, hp_18, hp_19, hp_20, hp_22, hp_23, hp_24, hp_25, hp_26, hp_27, hp_28, hp_29, hp_30, hp_31, hp_32, hp_33, hp_34, hp_35, hp_36, hp_37, hp_38, hp_39, hp_40, hp_41, hp_42, hp_43, hp_44, hp_45, hp_46, hp_47, hp_48, hp_49, hf0_5, hf0_6, hf0_7, hf1_1, hf3_0, hf3_2, hf3_6, hf10_0, hf10_2, hf10_6, hf17_3, hf17_4, hf20_3, hf20_4, hf30_0, hf30_1, hf30_3, hf30_7, hf30_11, hf30_12, hf30_20, hf30_22, hf30_23, hf30_24, hf30_25, hf30_21, hf30_31, upd_su, updL_su]
    exact ⟨⟨lo 0 (Nat.zero_le _) _ (eqx_su 3 _ rfl eqx_rfl) (by rw [h3]; rfl) (fun j hj => absurd hj (Nat.not_lt_zero _))⟩⟩
  · simp only [hp_0, hp_1, hp_2, hp_3, hp_4, hp_5, hp_6, hp_7, hp_8, hp_9, hp_10, hp_11, hp_12, hp_13, hp_14, hp_15, hp_16, hp_17, hp_18, hp_19, hp_20, hp_22, hp_23, hp_24, hp_25, hp_26, hp_27, hp_28, hp_29, hp_30, hp_31, hp_32, hp_33, hp_34, hp_35, hp_36, hp_37, hp_38, hp_39, hp_40, hp_41, hp_42, hp_43, hp_44, hp_45, hp_46, hp_47, hp_48, hp_49, hf0_5, hf0_6, hf0_7, hf1_1, hf3_0, hf3_2, hf3_6, hf10_0, hf10_2, hf10_6, hf17_3, hf17_4, hf20_3, hf20_4, hf30_0, hf30_1, hf30_3, hf30_7, hf30_11, hf30_12, hf30_20, hf30_22, hf30_23, hf30_24, hf30_25, hf30_21, hf30_31, upd_su, updL_su, e1]
    exact ⟨⟨lo 0 (Nat.zero_le _) _ (eqx_su 3 _ rfl eqx_rfl) rfl (fun j hj => absurd hj (Nat.not_lt_zero _))⟩⟩
set_option maxRecDepth 100000 in
set_option maxHeartbeats 4000000 in
theorem f_day (hC : sm_C 4 CT) (hR : RS c S) (hI : Ic S G) (hQ : ∀ G', eqx clsP G G' → Ic (N_day S) G' → Q (some (.int (A_day S))) (hp G' L)) : CT 45 [.ref 0] (hp G L) Q := by
  obtain ⟨i1, i2, i3, i4, i5⟩ := id hI
  have r8 := hR.2.2.1
  have rc := hR.2.2.2.1
  have l1 := fa_le (S := S)
  have l6 := fa_6 (S := S)
  have e1 := i2.1
  refine sm_meth hC [some (.ref 0)] rfl rfl rfl ?_
  refine sm_body [] 60 sm_k45 (fun CT K hC hK => ?_)
  unfold A_day N_day at hQ
  repeat' first
    | (with_reducible refine And.intro ?_ ?_)
    | ((with_reducible intro h9); first | exact absurd h9 (by decide) | ((rw [e1] at h9; replace h9 := zneq h9)) | ((rw [e1] at h9; replace h9 := zeq (b := 0) (by omega) (by omega) h9)) | ((rw [e1] at h9; replace h9 := zle (by omega) (by omega) h9)) | ((rw [e1] at h9; replace h9 := znle (by omega) (by omega) h9)) | skip)
    | (with_reducible exact zn_in (by omega) (by decide))
    | (with_reducible exact z01) | (with_reducible exact z11) | (with_reducible exact zb01 _)
    | (with_reducible exact zn_inb (by omega) (by decide))
    | (with_reducible exact zn_ina (by omega) (by decide))
    | (with_reducible exact zn_inc (by omega) (by decide))
    | ((conv => whnf); first | (with_reducible refine And.intro ?_ ?_) | ((with_reducible intro h9); first | exact absurd h9 (by decide) | ((rw [e1] at h9; replace h9 := zneq h9)) | ((rw [e1] at h9; replace h9 := zeq (b := 0) (by omega) (by omega) h9)) | ((rw [e1] at h9; replace h9 := zle (by omega) (by omega) h9)) | ((rw [e1] at h9; replace h9 := znle (by omega) (by omega) h9)) | skip) | (with_reducible refine hK _ _ _ _ (sm_un ?_)) | (with_reducible refine s_firstFault (hC.mono (by omega)) i2 r8 rc ?_) | (with_reducible refine s_begin (hC.mono (by omega)) i2 (by omega) rc (fun G1 hx h0 h2 h6 hw ho hl => ?_)))
  · simp only [if_t (show S 0 3 = 0 ∨ fa S ≠ S 0 3 from Or.inl h9)] at hQ
    exact hQ G eqx_rfl hI
  · have hok : ¬ (S 0 3 = 0 ∨ fa S ≠ S 0 3) := by omega
    simp only [if_f hok] at hQ
    conv => whnf
    simp only [hp_0, hp_1, hp_2, hp_3, hp_4, hp_5, hp_6, hp_7, hp_8, hp_9, hp_10, hp_11, hp_12, hp_13, hp_14, hp_15, hp_16, hp_17, hp_18, hp_19, hp_20, hp_22, hp_23, hp_24, hp_25, hp_26, hp_27, hp_28, hp_29, hp_30, hp_31, hp_32, hp_33, hp_34, hp_35, hp_36, hp_37, hp_38, hp_39, hp_40, hp_41, hp_42, hp_43, hp_44, hp_45, hp_46, hp_47, hp_48, hp_49, hf0_5, hf0_6, hf0_7, hf1_1, hf3_0, hf3_2, hf3_6, hf10_0, hf10_2, hf10_6, hf17_3, hf17_4, hf20_3, hf20_4, hf30_0, hf30_1, hf30_3, hf30_7, hf30_11, hf30_12, hf30_20, hf30_22, hf30_23, hf30_24, hf30_25, hf30_21, hf30_31, upd_su, updL_su]
    refine zq h0 (hQ _ ?_ ⟨⟨h0, h2, h6, hw, fun i hi => absurd hi (Nat.not_lt_zero _), fun v hv => ?_, fun v hv k hk => ?_⟩, ⟨rfl, fun i hi => absurd hi (Nat.not_lt_zero _)⟩, ⟨rfl, ?_, ?_⟩, Or.inr rfl, fun h => absurd (show (0 : Nat) = 1 from h) (by decide)⟩)
    · exact eqx_su 17 _ rfl (eqx_su 0 _ rfl (eqx_su 0 _ rfl (eqx_su 1 _ rfl (eqx_sub rfl hx))))
    · rw [so_0 rfl]; exact ho v hv
    · rw [lf_0 rfl]; exact hl _ (by omega)
    · show G1 0 6 + nI 1 = nI (S 0 4 + 1)
      rw [hx 0 rfl, i3.2.1, nI_add]
    · show G1 0 7 = nI (S 0 5)
      rw [hx 0 rfl, i3.2.2]
  · simp only [if_t (show S 0 3 = 0 ∨ fa S ≠ S 0 3 from Or.inr (by omega))] at hQ
    exact hQ G eqx_rfl hI
set_option maxRecDepth 100000 in
set_option maxHeartbeats 4000000 in
theorem g_day (hC : sm_C 3 CT) (hR : RS c S) (hI : Im c S G) (hQ : ∀ G', eqx mdlP G G' → Im c (N_day S) G' → Q (some (.int (A_day S))) (hp G' L)) : CT 87 [.ref 30] (hp G L) Q := by
  obtain ⟨i1, i2, i3, i4, i5, i6, i7⟩ := id hI
  obtain ⟨u1, u2, u3, u4⟩ := id i1
  have r8 := hR.2.2.1
  have rc := hR.2.2.2.1
  have l1 := fa_le (S := S)
  have l6 := fa_6 (S := S)
  have e1 := i3.1
  have e2 := i3.2
  refine sm_meth hC [some (.ref 30), none] rfl rfl rfl ?_
  unfold A_day N_day at hQ
  have lo : ¬ (S 0 3 = 0 ∨ fa S ≠ S 0 3) → ∀ i, i ≤ S 0 3 → ∀ G1, eqx [30, 31] G G1 → G1 30 = su (G 30) 1 (nI (S 0 3)) → (∀ j, j < i → G1 31 j = wI (dw (S 5 j))) → sm_Wk 2 87 Q none 31 [some (.ref 30), some (.int (nI i))] [] (hp G1 L) := by
    intro hok
    have h6 : S 0 3 ≤ 6 := by omega
    refine up _ (fun i hi ih G1 hx hf h1 => ?_)
    have f1 : G1 30 1 = nI (S 0 3) := by rw [hf]; rfl
    have hgood : i < S 0 3 → good (S 5 i) = true := fun hl => by
      have e : fa S = S 0 3 := by omega
      have q := lead_ok (P := gp S) 8 i (by unfold fa at e; omega)
      rw [gp_g ⟨hl, by omega⟩] at q
      exact q
    refine sm_body [31] 80 sm_k87 (fun CT K hC hK => ?_)
    repeat' first
      | (with_reducible refine And.intro ?_ ?_)
      | ((with_reducible intro h9); first | exact absurd h9 (by decide) | (replace h9 := nle f1 (by omega) (by omega) h9) | (replace h9 := yle f1 (by omega) (by omega) h9) | skip)
      | (with_reducible exact zn_in (by omega) (by decide))
      | (with_reducible exact z01) | (with_reducible exact z11) | (with_reducible exact zb01 _)
      | (with_reducible exact zn_inb (by omega) (by decide))
      | (with_reducible exact zn_ina (by omega) (by decide))
      | (with_reducible exact zn_inc (by omega) (by decide))
      | ((conv => whnf); first | (with_reducible refine And.intro ?_ ?_) | ((with_reducible intro h9); first | exact absurd h9 (by decide) | (replace h9 := nle f1 (by omega) (by omega) h9) | (replace h9 := yle f1 (by omega) (by omega) h9) | skip) | (with_reducible refine hK _ _ _ _ (sm_un ?_)) | ((rw [zn_clI (show i < 2 ^ 31 by omega), hx 38 rfl, e2 i ‹_›]; refine s_windBy (hC.mono (by omega)) (rc i ‹_›).2 ?_)))
    · obtain rfl : i = S 0 3 := by omega
      simp only [if_f hok] at hQ
      obtain ⟨b, d, b1, b2, b3, b4, b5, b6⟩ := i5
      conv => whnf
      simp only [hp_0, hp_1, hp_2, hp_3, hp_4, hp_5, hp_6, hp_7, hp_8, hp_9, hp_10, hp_11, hp_12, hp_13, hp_14, hp_15, hp_16, hp_17, hp_18, hp_19, hp_20, hp_22, hp_23, hp_24, hp_25, hp_26, hp_27, hp_28, hp_29, hp_30, hp_31, hp_32, hp_33, hp_34, hp_35, hp_36, hp_37, hp_38, hp_39, hp_40, hp_41, hp_42, hp_43, hp_44, hp_45, hp_46, hp_47, hp_48, hp_49, hf0_5, hf0_6, hf0_7, hf1_1, hf3_0, hf3_2, hf3_6, hf10_0, hf10_2, hf10_6, hf17_3, hf17_4, hf20_3, hf20_4, hf30_0, hf30_1, hf30_3, hf30_7, hf30_11, hf30_12, hf30_20, hf30_22, hf30_23, hf30_24, hf30_25, hf30_21, hf30_31, upd_su, updL_su, su_self]
      refine zq f1 (hQ _ (eqx_su 30 _ rfl (eqx_su 30 _ rfl (eqx_su 30 _ rfl (eqx_su 30 _ rfl (eqx_sub rfl hx))))) ⟨⟨f1, rfl, h1, fun i hi => absurd hi (Nat.not_lt_zero _)⟩, ⟨rfl, fun i hi => absurd hi (Nat.not_lt_zero _)⟩, ⟨rfl, fun i hi => absurd hi (Nat.not_lt_zero _)⟩, ⟨?_, ?_⟩, ⟨b, d, b1, Nat.le_succ_of_le b2, ?_, ?_, ⟨fun h => absurd (show (0 : Nat) = 1 from h) (by decide), fun h => ?_⟩, fun h => absurd (show (0 : Nat) = 1 from h) (by decide)⟩, ?_, ?_⟩)
      · show G1 30 0 + nI 1 = nI (S 0 4 + 1)
        rw [hf]
        show G 30 0 + nI 1 = _
        rw [i4.1, nI_add]
      · show G1 30 11 = nI (S 0 5)
        rw [hf]
        exact i4.2
      · show G1 30 22 = nI b
        rw [hf]
        exact b3
      · show G1 30 23 = nI d
        rw [hf]
        exact b4
      · have e : d = S 0 4 + 1 := h.2
        omega
      · show ∃ r, r ≤ c ∧ G1 30 20 = nI r ∧ ∀ i, i < 8192 → ∃ x, x ≤ r ∧ G1 44 i = nI x
        rw [hf, hx 44 rfl]
        exact i6
      · show ∀ k, k < 24 → ∃ q, q < 4 ∧ G1 40 k = nI q
        rw [hx 40 rfl]
        exact i7
    · simp only [hp_0, hp_1, hp_2, hp_3, hp_4, hp_5, hp_6, hp_7, hp_8, hp_9, hp_10, hp_11, hp_12, hp_13, hp_14, hp_15, hp_16, hp_17, hp_18, hp_19, hp_20, hp_22, hp_23, hp_24, hp_25, hp_26, hp_27, hp_28, hp_29, hp_30, hp_31, hp_32, hp_33, hp_34, hp_35, hp_36, hp_37, hp_38, hp_39, hp_40, hp_41, hp_42, hp_43, hp_44, hp_45, hp_46, hp_47, hp_48, hp_49, hf0_5, hf0_6, hf0_7, hf1_1, hf3_0, hf3_2, hf3_6, hf10_0, hf10_2, hf10_6, hf17_3, hf17_4, hf20_3, hf20_4, hf30_0, hf30_1, hf30_3, hf30_7, hf30_11, hf30_12, hf30_20, hf30_22, hf30_23, hf30_24, hf30_25, hf30_21, hf30_31, upd_su, updL_su, nI_add, zn_clI (show i < 2 ^ 31 by omega), hgood h9]
      refine ⟨⟨ih ‹_› _ (eqx_su 31 _ rfl hx) hf (fun j hj => ?_)⟩⟩
      rw [su_eq, su_if]
      split
      · rename_i e
        rw [e]
        rfl
      · exact h1 j (by omega)
  refine sm_body [31] 60 sm_k87 (fun CT K hC hK => ?_)
  repeat' first
    | (with_reducible refine And.intro ?_ ?_)
    | ((with_reducible intro h9); first | exact absurd h9 (by decide) | ((rw [e1] at h9; replace h9 := zneq h9)) | ((rw [e1] at h9; replace h9 := zeq (by omega) (by omega) h9)) | skip)
    | (with_reducible exact zn_in (by omega) (by decide))
    | (with_reducible exact z01) | (with_reducible exact z11) | (with_reducible exact zb01 _)
    | (with_reducible exact zn_inb (by omega) (by decide))
    | (with_reducible exact zn_ina (by omega) (by decide))
    | (with_reducible exact zn_inc (by omega) (by decide))
    | ((conv => whnf); first | (with_reducible refine And.intro ?_ ?_) | ((with_reducible intro h9); first | exact absurd h9 (by decide) | ((rw [e1] at h9; replace h9 := zneq h9)) | ((rw [e1] at h9; replace h9 := zeq (by omega) (by omega) h9)) | skip) | (with_reducible refine hK _ _ _ _ (sm_un ?_)) | (with_reducible refine s_faultNow (hC.mono (by omega)) i3 r8 rc ?_))
  · simp only [if_t (show S 0 3 = 0 ∨ fa S ≠ S 0 3 from Or.inl h9)] at hQ
    exact hQ G eqx_rfl hI
  · simp only [hp_0, hp_1, hp_2, hp_3, hp_4, hp_5, hp_6, hp_7, hp_8, hp_9, hp_10, hp_11, hp_12, hp_13, hp_14, hp_15, hp_16, hp_17, hp_18, hp_19, hp_20, hp_22, hp_23, hp_24, hp_25, hp_26, hp_27, hp_28, hp_29, hp_30, hp_31, hp_32, hp_33, hp_34, hp_35, hp_36, hp_37, hp_38, hp_39, hp_40, hp_41, hp_42, hp_43, hp_44, hp_45, hp_46, hp_47, hp_48, hp_49, hf0_5, hf0_6, hf0_7, hf1_1, hf3_0, hf3_2, hf3_6, hf10_0, hf10_2, hf10_6, hf17_3, hf17_4, hf20_3, hf20_4, hf30_0, hf30_1, hf30_3, hf30_7, hf30_11, hf30_12, hf30_20, hf30_22, hf30_23, hf30_24, hf30_25, hf30_21, hf30_31, upd_su, updL_su, su_self, e1]
    exact ⟨⟨lo (by omega) 0 (Nat.zero_le _) _ (eqx_su 30 _ rfl eqx_rfl) rfl (fun j hj => absurd hj (Nat.not_lt_zero _))⟩⟩
  · simp only [if_t (show S 0 3 = 0 ∨ fa S ≠ S 0 3 from Or.inr h9)] at hQ
    exact hQ G eqx_rfl hI
theorem R_mono {c' : Nat} (h : c ≤ c') (hR : RS c S) : RS c' S := ⟨hR.1, hR.2.1, hR.2.2.1, hR.2.2.2.1, Nat.le_trans hR.2.2.2.2.1 h, hR.2.2.2.2.2⟩
theorem I_mono {c' : Nat} (h : c ≤ c') (hI : Im c S G) : Im c' S G := by
  obtain ⟨i1, i2, i3, i4, i5, ⟨r, h1, h2⟩, i7⟩ := hI
  exact ⟨i1, i2, i3, i4, i5, ⟨r, Nat.le_trans h1 h, h2⟩, i7⟩
theorem R_day (hR : RS c S) : RS (c + 16) (N_day S) := by
  unfold N_day
  split
  · exact R_mono (by omega) hR
  · rename_i hok
    have l6 := fa_6 (S := S)
    obtain ⟨a1, a2, a3, a4, a5, a6, a7, a8, a9⟩ := hR
    refine ⟨⟨?_, Nat.zero_le _, fun i hi => dw_le _, fun i hi => absurd hi (Nat.not_lt_zero _)⟩, ⟨Nat.zero_le _, fun k hk => absurd hk (Nat.not_lt_zero _)⟩, Nat.zero_le _, fun i hi => absurd hi (Nat.not_lt_zero _), ?_, a6, Nat.zero_le _, fun _ => rfl, fun h => absurd (show (0 : Nat) = 1 from h) (by decide)⟩
    · show S 0 3 ≤ 6
      omega
    · show S 0 4 + 1 ≤ c + 16
      omega
end DAY
end
section
/-! ask, sorts, oiling: both sides. -/
def incA (S : Nat → Nat → Nat) : Nat → Nat → Nat := su S 0 (su (S 0) 5 (S 0 5 + 1))
def bc (S : Nat → Nat → Nat) (k : Nat) : Nat × Nat := if k = 0 then (0, 2147483647) else bl S k
theorem bc_0 {S : Nat → Nat → Nat} : bc S 0 = (0, 2147483647) := rfl
theorem bc_s {S : Nat → Nat → Nat} {k : Nat} (h : k ≠ 0) : bc S k = bl S k := if_f h
theorem bl_A {S : Nat → Nat → Nat} {k : Nat} (h : ws S k < (bl S k).2) : bl S (k + 1) = (k, ws S k) := by
  rw [bl]
  exact if_t h
theorem bl_B {S : Nat → Nat → Nat} {k : Nat} (h : ¬ ws S k < (bl S k).2) : bl S (k + 1) = bl S k := by
  rw [bl]
  exact if_f h
theorem ws_lt {S : Nat → Nat → Nat} (hR : dR S) {k : Nat} (h : k % 6 < S 0 0) : ws S k < 8192 := by
  unfold ws
  rw [if_t h]
  have := mq_lt (c := aPt S (k / 6) (k % 6)) (M := 4097) (by decide) 4 (fun q _ => by have := cnt_le hR (fun w => Nat.beq (ps S w (k / 6) (k % 6 + 1)) q); unfold aPt; omega)
  omega
theorem bc_A {S : Nat → Nat → Nat} (hR : dR S) {k : Nat} (hk : k % 6 < S 0 0) (h : ws S k < (bc S k).2) : bc S (k + 1) = (k, ws S k) := by
  rw [bc_s (by omega)]
  apply bl_A
  by_cases e : k = 0
  · subst e
    exact ws_lt hR hk
  · rw [bc_s e] at h
    exact h
theorem bc_B {S : Nat → Nat → Nat} (hR : dR S) {k : Nat} (hk : k % 6 < S 0 0) (h : ¬ ws S k < (bc S k).2) : bc S (k + 1) = bc S k := by
  by_cases e : k = 0
  · subst e
    exfalso
    apply h
    have := ws_lt hR hk
    show ws S 0 < 2147483647
    omega
  · rw [bc_s e] at h ⊢
    rw [bc_s (by omega)]
    exact bl_B h
theorem bc_row {S : Nat → Nat → Nat} (h0 : 0 < S 0 0) {v : Nat} : ∀ d, S 0 0 + d ≤ 6 → bc S (6 * v + (S 0 0 + d)) = bc S (6 * v + S 0 0)
  | 0, _ => rfl
  | d + 1, h => by
    rw [show 6 * v + (S 0 0 + (d + 1)) = 6 * v + (S 0 0 + d) + 1 by omega, bc_s (by omega)]
    have e : ws S (6 * v + (S 0 0 + d)) = 8192 := by
      unfold ws
      exact if_f (by omega)
    have hle := bl_le (S := S) (6 * v + (S 0 0 + d))
    rw [bl_B (by omega), ← bc_s (by omega)]
    exact bc_row h0 d (by omega)
theorem bc_le {S : Nat → Nat → Nat} (k : Nat) : (bc S k).2 ≤ 2147483647 := by
  unfold bc
  split
  · exact Nat.le_refl _
  · have := bl_le (S := S) k
    omega
theorem bl_ws {S : Nat → Nat → Nat} : ∀ k, (bl S k).1 = 24 ∨ ((bl S k).1 % 6 < S 0 0 ∧ ws S (bl S k).1 = (bl S k).2)
  | 0 => Or.inl rfl
  | k + 1 => by
    by_cases h : ws S k < (bl S k).2
    · rw [bl_A h]
      refine Or.inr ⟨?_, rfl⟩
      show k % 6 < S 0 0
      by_cases hk : k % 6 < S 0 0
      · exact hk
      · have e : ws S k = 8192 := by
          unfold ws
          exact if_f hk
        have := bl_le (S := S) k
        omega
    · rw [bl_B h]
      exact bl_ws k
section ASK
variable {CT : sm_CT} {G : Nat → Nat → Int32} {L : Nat → Nat → Int64} {Q : sm_Q} {S : Nat → Nat → Nat} {c : Nat} {h : sm_H}
set_option maxRecDepth 100000 in
set_option maxHeartbeats 4000000 in
theorem s_bestPlace (hC : sm_C 3 CT) (hR : dR S) (e1 : G 3 0 = nI (S 0 0)) (e2 : G 3 2 = nI (S 0 1)) (h0 : 0 < S 0 0) (hv : 0 < S 0 1) (hG : ∀ v, v < S 0 1 → ∀ k, k < S 0 0 → ∀ q, q < 4 → G 18 ((v * 6 + k) * 4 + q) = nI (aPt S v k q)) (hQ : Q (some (.int (nI (bl S (6 * S 0 1)).1))) (hp G L)) : CT 34 [.ref 17] (hp G L) Q := by
  obtain ⟨r1, r2, r3, r4⟩ := id hR
  refine sm_meth hC [some (.ref 17), none, none, none, none, none] rfl rfl rfl ?_
  have lo : ∀ v, v ≤ S 0 1 → ∀ o4 o5, sm_Wk 2 34 Q none 7 [some (.ref 17), some (.int (nI (bc S (6 * v)).1)), some (.int (nI (bc S (6 * v)).2)), some (.int (nI v)), o4, o5] [] (hp G L) := by
    refine up _ (fun v hvl ih o4 o5 => ?_)
    have inner : v < S 0 1 → ∀ k, k ≤ S 0 0 → ∀ o5, sm_Wk 2 34 Q none 21 [some (.ref 17), some (.int (nI (bc S (6 * v + k)).1)), some (.int (nI (bc S (6 * v + k)).2)), some (.int (nI v)), some (.int (nI k)), o5] [] (hp G L) := by
      intro hl
      refine up _ (fun k hk ihk o5 => ?_)
      have hle := bc_le (S := S) (6 * v + k)
      refine sm_body [7, 21] 80 sm_k34 (fun CT K hC hK => ?_)
      have hws := ws_le hR (6 * v + k)
      have hm : k < S 0 0 → mq 4 (aPt S v k) = ws S (6 * v + k) := fun h => by
        unfold ws
        rw [if_t (show (6 * v + k) % 6 < S 0 0 by omega), show (6 * v + k) / 6 = v by omega, show (6 * v + k) % 6 = k by omega]
      repeat' first
        | (with_reducible refine And.intro ?_ ?_)
        | ((with_reducible intro h9); first | exact absurd h9 (by decide) | (replace h9 := nle e1 (by omega) (by omega) h9) | (replace h9 := yle e1 (by omega) (by omega) h9) | ((rw [hm ‹_›] at h9; replace h9 := zle (by omega) (by omega) h9)) | ((rw [hm ‹_›] at h9; replace h9 := znle (by omega) (by omega) h9)) | skip)
        | (with_reducible exact zn_in (by omega) (by decide))
        | (with_reducible exact z01) | (with_reducible exact z11) | (with_reducible exact zb01 _)
        | (with_reducible exact zn_inb (by omega) (by decide))
        | (with_reducible exact zn_ina (by omega) (by decide))
        | (with_reducible exact zn_inc (by omega) (by decide))
        | ((conv => whnf); first | (with_reducible refine And.intro ?_ ?_) | ((with_reducible intro h9); first | exact absurd h9 (by decide) | (replace h9 := nle e1 (by omega) (by omega) h9) | (replace h9 := yle e1 (by omega) (by omega) h9) | ((rw [hm ‹_›] at h9; replace h9 := zle (by omega) (by omega) h9)) | ((rw [hm ‹_›] at h9; replace h9 := znle (by omega) (by omega) h9)) | skip) | (with_reducible refine hK _ _ _ _ (sm_un ?_)) | (with_reducible refine s_worst (c := aPt S v k) (hC.mono (by omega)) (by omega) (by omega) (fun q _ => aPt31 hR v k q) (hG v hl k ‹_›) ?_))
      · obtain rfl : k = S 0 0 := by omega
        have e := bc_row (S := S) (v := v) h0 (6 - S 0 0) (by omega)
        rw [show 6 * v + (S 0 0 + (6 - S 0 0)) = 6 * (v + 1) by omega] at e
        have e2 := ih hl (some (.int (nI (S 0 0)))) o5
        rw [e] at e2
        simp only [nI_add]; exact ⟨⟨e2⟩⟩
      · have e := ihk ‹_› (some (.int (nI (ws S (6 * v + k)))))
        rw [show 6 * v + (k + 1) = 6 * v + k + 1 by omega, bc_B hR (by omega) (by omega)] at e
        simp only [nI_add, hm ‹_›]
        exact ⟨⟨e⟩⟩
      · have e := ihk ‹_› (some (.int (nI (ws S (6 * v + k)))))
        rw [show 6 * v + (k + 1) = 6 * v + k + 1 by omega, bc_A hR (by omega) h9] at e
        simp only [nI_add, pk_mul, hm ‹_›]
        rw [show v * 6 + k = 6 * v + k by omega]
        exact ⟨⟨e⟩⟩
    refine sm_body [7, 21] 80 sm_k34 (fun CT K hC hK => ?_)
    repeat' first
      | (with_reducible refine And.intro ?_ ?_)
      | ((with_reducible intro h9); first | exact absurd h9 (by decide) | (replace h9 := nle e2 (by omega) (by omega) h9) | (replace h9 := yle e2 (by omega) (by omega) h9) | skip)
      | (with_reducible exact zn_in (by omega) (by decide))
      | (with_reducible exact z01) | (with_reducible exact z11) | (with_reducible exact zb01 _)
      | (with_reducible exact zn_inb (by omega) (by decide))
      | (with_reducible exact zn_ina (by omega) (by decide))
      | (with_reducible exact zn_inc (by omega) (by decide))
      | ((conv => whnf); first | (with_reducible refine And.intro ?_ ?_) | ((with_reducible intro h9); first | exact absurd h9 (by decide) | (replace h9 := nle e2 (by omega) (by omega) h9) | (replace h9 := yle e2 (by omega) (by omega) h9) | skip) | (with_reducible refine hK _ _ _ _ (sm_un ?_)))
    · obtain rfl : v = S 0 1 := by omega
      rw [bc_s (by omega)]
      exact hQ
    · exact ⟨⟨inner h9 0 (Nat.zero_le _) o5⟩⟩
  refine sm_body [7] 60 sm_k34 (fun CT K hC hK => ?_)
  repeat' first
    | (with_reducible refine And.intro ?_ ?_)
    | ((with_reducible intro h9); first | exact absurd h9 (by decide) | skip)
    | (with_reducible exact zn_in (by omega) (by decide))
    | (with_reducible exact z01) | (with_reducible exact z11) | (with_reducible exact zb01 _)
    | (with_reducible exact zn_inb (by omega) (by decide))
    | (with_reducible exact zn_ina (by omega) (by decide))
    | (with_reducible exact zn_inc (by omega) (by decide))
    | ((conv => whnf); first | (with_reducible refine And.intro ?_ ?_) | ((with_reducible intro h9); first | exact absurd h9 (by decide) | skip) | (with_reducible refine hK _ _ _ _ (sm_un ?_)))
  exact ⟨⟨lo 0 (Nat.zero_le _) _ _⟩⟩
set_option maxRecDepth 100000 in
set_option maxHeartbeats 4000000 in
theorem s_isInquiryClosed (hC : sm_C 1 CT) (e2 : G 3 2 = nI (S 0 1)) (hv : S 0 1 ≤ 4) (ea : G 0 7 = nI (S 0 5)) (ha : S 0 5 ≤ 30) (hQ : Q (some (.int (sm_b (decide (S 0 1 = 0 ∨ 30 ≤ S 0 5))))) (hp G L)) : CT 66 [.ref 0] (hp G L) Q := by
  refine sm_meth hC [some (.ref 0)] rfl rfl rfl ?_
  refine sm_body [] 80 sm_k66 (fun CT K hC hK => ?_)
  repeat' first
    | (with_reducible refine And.intro ?_ ?_)
    | ((with_reducible intro h9); first | exact absurd h9 (by decide) | ((rw [e2] at h9; replace h9 := zneq h9)) | ((rw [e2] at h9; replace h9 := zeq (b := 0) (by omega) (by omega) h9)) | ((rw [ea] at h9; replace h9 := zlt (b := 30) (by omega) (by omega) h9)) | ((rw [ea] at h9; replace h9 := znl (b := 30) (by omega) (by omega) h9)) | skip)
    | (with_reducible exact zn_in (by omega) (by decide))
    | (with_reducible exact z01) | (with_reducible exact z11) | (with_reducible exact zb01 _)
    | (with_reducible exact zn_inb (by omega) (by decide))
    | (with_reducible exact zn_ina (by omega) (by decide))
    | (with_reducible exact zn_inc (by omega) (by decide))
    | ((conv => whnf); first | (with_reducible refine And.intro ?_ ?_) | ((with_reducible intro h9); first | exact absurd h9 (by decide) | ((rw [e2] at h9; replace h9 := zneq h9)) | ((rw [e2] at h9; replace h9 := zeq (b := 0) (by omega) (by omega) h9)) | ((rw [ea] at h9; replace h9 := zlt (b := 30) (by omega) (by omega) h9)) | ((rw [ea] at h9; replace h9 := znl (b := 30) (by omega) (by omega) h9)) | skip) | (with_reducible refine hK _ _ _ _ (sm_un ?_)))
  all_goals first
    | (exact zq (dc_f (by omega)) hQ)
    | (exact zq (dc_t (by omega)) hQ)
def A_ask (S : Nat → Nat → Nat) (x : Int32) : Int32 := cond (inb x 3) (if S 0 1 = 0 ∨ 30 ≤ S 0 5 then -103 else askR S x.toNatClampNeg) (-102)
def N_ask (S : Nat → Nat → Nat) (x : Int32) : Nat → Nat → Nat := cond (inb x 3) (if S 0 1 = 0 ∨ 30 ≤ S 0 5 then S else incA S) S
theorem R_inc (hR : RS c S) (h : ¬ (S 0 1 = 0 ∨ 30 ≤ S 0 5)) : RS c (incA S) := by
  obtain ⟨a1, a2, a3, a4, a5, a6, a7, a8, a9⟩ := hR
  refine ⟨dR_sim ⟨rfl, rfl, rfl, rfl, rfl, rfl, rfl, rfl, rfl, rfl⟩ a1, nR_sim ⟨rfl, rfl, rfl, rfl, rfl, rfl, rfl, rfl, rfl, rfl⟩ a2, a3, a4, a5, ?_, a7, a8, fun h => ⟨(a9 h).1, (a9 h).2.1, dR_sim ⟨rfl, rfl, rfl, rfl, rfl, rfl, rfl, rfl, rfl, rfl⟩ (a9 h).2.2.1, nR_sim ⟨rfl, rfl, rfl, rfl, rfl, rfl, rfl, rfl, rfl, rfl⟩ (a9 h).2.2.2⟩⟩
  show S 0 5 + 1 ≤ 30
  omega
theorem R_ask (hR : RS c S) (x : Int32) : RS c (N_ask S x) := by
  unfold N_ask
  cases inb x 3 with
  | false => exact hR
  | true =>
    simp only [cond_true]
    split
    · exact hR
    · exact R_inc hR ‹_›
/-- the class behind inquiries++ -/
theorem I_inc (hI : Ic S G) : Ic (incA S) (su G 0 (su (G 0) 7 (G 0 7 + nI 1))) := by
  obtain ⟨i1, i2, i3, i4, i5⟩ := hI
  refine ⟨hF_sim ⟨rfl, rfl, rfl, rfl, rfl, rfl, rfl, rfl, rfl, rfl⟩ i1, i2, ⟨i3.1, i3.2.1, ?_⟩, (by have e : cT (incA S) G := cT_sim (S := S) (S' := incA S) ⟨rfl, rfl, rfl, rfl, rfl, rfl, rfl, rfl, rfl, rfl⟩ i4; exact e), fun h => hF_sim ⟨rfl, rfl, rfl, rfl, rfl, rfl, rfl, rfl, rfl, rfl⟩ (i5 h)⟩
  show G 0 7 + nI 1 = nI (S 0 5 + 1)
  rw [i3.2.2, nI_add]
theorem J_inc (hI : Im c S G) : Im c (incA S) (su G 30 (su (G 30) 11 (G 30 11 + nI 1))) := by
  obtain ⟨i1, i2, i3, i4, i5, i6, i7⟩ := hI
  refine ⟨mD_sim ⟨rfl, rfl, rfl, rfl, rfl, rfl, rfl, rfl, rfl, rfl⟩ i1, mS_sim ⟨rfl, rfl, rfl, rfl, rfl, rfl, rfl, rfl, rfl, rfl⟩ i2, i3, ⟨i4.1, ?_⟩, i5, i6, i7⟩
  show G 30 11 + nI 1 = nI (S 0 5 + 1)
  rw [i4.2, nI_add]
set_option maxRecDepth 100000 in
set_option maxHeartbeats 4000000 in
theorem f_ask (hC : sm_C 14 CT) (hR : RS c S) (hI : Ic S G) {x : Int32} (hQ : ∀ G', eqx clsP G G' → Ic (N_ask S x) G' → Q (some (.int (A_ask S x))) (hp G' L)) : CT 56 [.ref 0, .int x] (hp G L) Q := by
  obtain ⟨hdR, hnR, -⟩ := id hR
  obtain ⟨r1, r2, r3, r4⟩ := id hdR
  obtain ⟨e1, e2, -⟩ := id hI.1
  have ea := hI.2.2.1.2.2
  have r30 := hR.2.2.2.2.2.1
  have r0 := hR.2.2.2.2.2.2.2.1
  refine sm_meth hC [some (.ref 0), some (.int x), none, none, none] rfl rfl rfl ?_
  unfold A_ask N_ask at hQ
  cases hb : inb x 3 with
  | false =>
    rw [hb] at hQ
    refine sm_body [] 80 sm_k56 (fun CT K hC hK => ?_)
    repeat' first
      | (with_reducible refine And.intro ?_ ?_)
      | ((with_reducible intro h9); first | exact absurd h9 (by decide) | ((have h8 : x ≤ nI 2 := h9; exfalso; obtain ⟨j, hj, e⟩ := wi_t (x := x) (y := nI 2) (n := 3) (by decide) rfl (Int32.not_lt.mp ‹¬ x < nI 0›) h8; rw [e, inb_n hj (by decide)] at hb; exact absurd hb (by decide))) | skip)
      | (with_reducible exact zn_in (by omega) (by decide))
      | (with_reducible exact z01) | (with_reducible exact z11) | (with_reducible exact zb01 _)
      | (with_reducible exact zn_inb (by omega) (by decide))
      | (with_reducible exact zn_ina (by omega) (by decide))
      | (with_reducible exact zn_inc (by omega) (by decide))
      | ((conv => whnf); first | (with_reducible refine And.intro ?_ ?_) | ((with_reducible intro h9); first | exact absurd h9 (by decide) | ((have h8 : x ≤ nI 2 := h9; exfalso; obtain ⟨j, hj, e⟩ := wi_t (x := x) (y := nI 2) (n := 3) (by decide) rfl (Int32.not_lt.mp ‹¬ x < nI 0›) h8; rw [e, inb_n hj (by decide)] at hb; exact absurd hb (by decide))) | skip) | (with_reducible refine hK _ _ _ _ (sm_un ?_)))
    all_goals exact hQ G eqx_rfl hI
  | true =>
    obtain ⟨j, hj, rfl⟩ := inb_ex hb
    simp only [hb, cond_true, ci hj (show 3 ≤ 100 by decide)] at hQ
    have hbw := bl_ws (S := S) (6 * S 0 1)
    refine sm_body [] 80 sm_k56 (fun CT K hC hK => ?_)
    repeat' first
      | (with_reducible refine And.intro ?_ ?_)
      | ((with_reducible intro h9); first | exact absurd h9 (by decide) | (exact absurd (zlt (by omega) (by omega) h9) (Nat.not_lt_zero _)) | (exact absurd (nI_le (by omega) (by omega)) h9) | (replace h9 := of_decide_eq_false (sb_f h9)) | (replace h9 := of_decide_eq_true (sb_t h9)) | ((rw [tl_all hnR (tl_sim (S := incA S) (S' := S) ⟨rfl, rfl, rfl, rfl, rfl, rfl, rfl, rfl, rfl, rfl⟩ ht)] at h9; replace h9 := zneq h9)) | ((rw [tl_all hnR (tl_sim (S := incA S) (S' := S) ⟨rfl, rfl, rfl, rfl, rfl, rfl, rfl, rfl, rfl, rfl⟩ ht)] at h9; replace h9 := zeq (aAll31 hdR) (by decide) h9)) | (replace h9 := zneq h9) | (replace h9 := zeq (by omega) (by decide) h9) | skip)
      | (with_reducible exact zn_in (by omega) (by decide))
      | (with_reducible exact z01) | (with_reducible exact z11) | (with_reducible exact zb01 _)
      | (with_reducible exact zn_inb (by omega) (by decide))
      | (with_reducible exact zn_ina (by omega) (by decide))
      | (with_reducible exact zn_inc (by omega) (by decide))
      | ((conv => whnf); first | (with_reducible refine And.intro ?_ ?_) | ((with_reducible intro h9); first | exact absurd h9 (by decide) | (exact absurd (zlt (by omega) (by omega) h9) (Nat.not_lt_zero _)) | (exact absurd (nI_le (by omega) (by omega)) h9) | (replace h9 := of_decide_eq_false (sb_f h9)) | (replace h9 := of_decide_eq_true (sb_t h9)) | ((rw [tl_all hnR (tl_sim (S := incA S) (S' := S) ⟨rfl, rfl, rfl, rfl, rfl, rfl, rfl, rfl, rfl, rfl⟩ ht)] at h9; replace h9 := zneq h9)) | ((rw [tl_all hnR (tl_sim (S := incA S) (S' := S) ⟨rfl, rfl, rfl, rfl, rfl, rfl, rfl, rfl, rfl, rfl⟩ ht)] at h9; replace h9 := zeq (aAll31 hdR) (by decide) h9)) | (replace h9 := zneq h9) | (replace h9 := zeq (by omega) (by decide) h9) | skip) | (with_reducible refine hK _ _ _ _ (sm_un ?_)) | (with_reducible refine s_isInquiryClosed (hC.mono (by omega)) e2 r2 ea r30 ?_) | ((simp only [hp_0, hp_1, hp_2, hp_3, hp_4, hp_5, hp_6, hp_7, hp_8, hp_9, hp_10, hp_11, hp_12, hp_13, hp_14, hp_15, hp_16, hp_17, hp_18, hp_19, hp_20, hp_22, hp_23, hp_24, hp_25, hp_26, hp_27, hp_28, hp_29, hp_30, hp_31, hp_32, hp_33, hp_34, hp_35, hp_36, hp_37, hp_38, hp_39, hp_40, hp_41, hp_42, hp_43, hp_44, hp_45, hp_46, hp_47, hp_48, hp_49, hf0_5, hf0_6, hf0_7, hf1_1, hf3_0, hf3_2, hf3_6, hf10_0, hf10_2, hf10_6, hf17_3, hf17_4, hf20_3, hf20_4, hf30_0, hf30_1, hf30_3, hf30_7, hf30_11, hf30_12, hf30_20, hf30_22, hf30_23, hf30_24, hf30_25, hf30_21, hf30_31, upd_su, updL_su]; refine f_refresh (hC.mono (by omega)) (R_inc hR ‹_›) (I_inc hI) (fun G' hx hI' ht => ?_))) | (refine s_bestPlace (S := S) (hC.mono (by omega)) hdR hI'.1.1 hI'.1.2.1 (by omega) (by omega) (fun v hv k hk q hq => tl_pt hnR (tl_sim (S := incA S) (S' := S) ⟨rfl, rfl, rfl, rfl, rfl, rfl, rfl, rfl, rfl, rfl⟩ ht) hv r2 hk r1 hq) ?_))
    · have hcl : ¬ (S 0 1 = 0 ∨ 30 ≤ S 0 5) := ‹_›
      have hb1 := bl_lt hdR (show 0 < S 0 0 by omega) (6 * S 0 1) (by omega)
      have htS : tl S G' := tl_sim (S := incA S) (S' := S) ⟨rfl, rfl, rfl, rfl, rfl, rfl, rfl, rfl, rfl, rfl⟩ ht
      have hb2 : (bl S (6 * S 0 1)).1 % 6 < S 0 0 ∧ ws S (bl S (6 * S 0 1)).1 = (bl S (6 * S 0 1)).2 := by
        rcases hbw with z | z
        · omega
        · exact z
      conv => whnf
      rw [pk_div (by omega) (by decide) (by decide), zn_ir (by omega) (by decide) (by decide)]
      refine s_worst (c := aPt S ((bl S (6 * S 0 1)).1 / 6) ((bl S (6 * S 0 1)).1 % 6)) (hC.mono (by omega)) (by omega) (by omega) (fun q _ => aPt31 hdR _ _ q) (fun q hq => tl_pt hnR htS (by omega) r2 hb2.1 r1 hq) ?_
      simp only [if_f hcl] at hQ
      refine zq ?_ (hQ G' (eqx_trans (eqx_su 0 _ rfl eqx_rfl) (eqx_sub rfl hx)) hI')
      unfold askR
      rw [if_f ‹aAll S ≠ 0›, if_f ‹j ≠ 0›, if_f ‹j ≠ 1›, ← hb2.2]
      unfold ws
      rw [if_t hb2.1]
    · have hcl : ¬ (S 0 1 = 0 ∨ 30 ≤ S 0 5) := ‹_›
      have hb1 := bl_lt hdR (show 0 < S 0 0 by omega) (6 * S 0 1) (by omega)
      simp only [if_f hcl] at hQ
      refine zq ?_ (hQ G' (eqx_trans (eqx_su 0 _ rfl eqx_rfl) (eqx_sub rfl hx)) hI')
      unfold askR
      rw [if_f ‹aAll S ≠ 0›, if_f (show ¬ j = 0 by omega), if_t ‹j = 1›, zn_ir (by omega) (by decide) (by decide)]
    · have hcl : ¬ (S 0 1 = 0 ∨ 30 ≤ S 0 5) := ‹_›
      have hb1 := bl_lt hdR (show 0 < S 0 0 by omega) (6 * S 0 1) (by omega)
      simp only [if_f hcl] at hQ
      refine zq ?_ (hQ G' (eqx_trans (eqx_su 0 _ rfl eqx_rfl) (eqx_sub rfl hx)) hI')
      unfold askR
      rw [if_f ‹aAll S ≠ 0›, if_t ‹j = 0›, pk_div (by omega) (by decide) (by decide)]
    · have hcl : ¬ (S 0 1 = 0 ∨ 30 ≤ S 0 5) := ‹_›
      simp only [if_f hcl] at hQ
      refine zq ?_ (hQ G' (eqx_trans (eqx_su 0 _ rfl eqx_rfl) (eqx_sub rfl hx)) hI')
      unfold askR
      rw [if_t ‹aAll S = 0›]
    · have hcl : S 0 1 = 0 ∨ 30 ≤ S 0 5 := h9
      simp only [if_t hcl] at hQ
      exact hQ G eqx_rfl hI
set_option maxRecDepth 100000 in
set_option maxHeartbeats 4000000 in
theorem g_ask (hC : sm_C 8 CT) (hR : RS c S) (hI : Im c S G) {x : Int32} (hQ : ∀ G', eqx mdlP G G' → Im c (N_ask S x) G' → Q (some (.int (A_ask S x))) (hp G' L)) : CT 116 [.ref 30, .int x] (hp G L) Q := by
  obtain ⟨hdR, hnR, -⟩ := id hR
  obtain ⟨r1, r2, r3, r4⟩ := id hdR
  obtain ⟨i1, i2, i3, i4, i5, i6, i7⟩ := id hI
  have r30 := hR.2.2.2.2.2.1
  have r0 := hR.2.2.2.2.2.2.2.1
  refine sm_meth hC [some (.ref 30), some (.int x)] rfl rfl rfl ?_
  unfold A_ask N_ask at hQ
  refine sm_body [] 80 sm_k116 (fun CT K hC hK => ?_)
  have J := J_inc hI
  have e3 := i1.2.1
  have ea := i4.2
  repeat' first
    | (with_reducible refine And.intro ?_ ?_)
    | ((with_reducible intro h9); first | exact absurd h9 (by decide) | (replace h9 := sb_f h9) | ((have h8 := inb_ex (x := x) (sb_t h9); obtain ⟨j, hj, rfl⟩ := h8)) | (replace h9 := of_decide_eq_true (sb_t h9)) | skip)
    | (with_reducible exact zn_in (by omega) (by decide))
    | (with_reducible exact z01) | (with_reducible exact z11) | (with_reducible exact zb01 _)
    | (with_reducible exact zn_inb (by omega) (by decide))
    | (with_reducible exact zn_ina (by omega) (by decide))
    | (with_reducible exact zn_inc (by omega) (by decide))
    | ((conv => whnf); first | (with_reducible refine And.intro ?_ ?_) | ((with_reducible intro h9); first | exact absurd h9 (by decide) | (replace h9 := sb_f h9) | ((have h8 := inb_ex (x := x) (sb_t h9); obtain ⟨j, hj, rfl⟩ := h8)) | (replace h9 := of_decide_eq_true (sb_t h9)) | skip) | (with_reducible refine hK _ _ _ _ (sm_un ?_)) | (with_reducible refine b_withinM (n := 3) (hC.mono (by omega)) (by decide) rfl ?_) | (with_reducible refine s_mayAsk (hC.mono (by omega)) e3 r2 ea r30 ?_))
  · conv => whnf
    simp only [hp_0, hp_1, hp_2, hp_3, hp_4, hp_5, hp_6, hp_7, hp_8, hp_9, hp_10, hp_11, hp_12, hp_13, hp_14, hp_15, hp_16, hp_17, hp_18, hp_19, hp_20, hp_22, hp_23, hp_24, hp_25, hp_26, hp_27, hp_28, hp_29, hp_30, hp_31, hp_32, hp_33, hp_34, hp_35, hp_36, hp_37, hp_38, hp_39, hp_40, hp_41, hp_42, hp_43, hp_44, hp_45, hp_46, hp_47, hp_48, hp_49, hf0_5, hf0_6, hf0_7, hf1_1, hf3_0, hf3_2, hf3_6, hf10_0, hf10_2, hf10_6, hf17_3, hf17_4, hf20_3, hf20_4, hf30_0, hf30_1, hf30_3, hf30_7, hf30_11, hf30_12, hf30_20, hf30_22, hf30_23, hf30_24, hf30_25, hf30_21, hf30_31, upd_su, updL_su, su_self]
    refine s_askNow (S := S) (G := su G 30 (su (G 30) 11 (G 30 11 + nI 1))) (hC.mono (by omega)) i1 hdR i2 hnR i7 (by omega) (by omega) hj (fun G' hx hp => ?_)
    simp only [i0 hj (show 3 ≤ 100 by decide), ci hj (show 3 ≤ 100 by decide), cond_true, if_f (show ¬ (S 0 1 = 0 ∨ 30 ≤ S 0 5) by omega)] at hQ
    exact hQ G' (eqx_trans (eqx_su 30 _ rfl eqx_rfl) (eqx_sub rfl hx)) (Im_39 hx hp J)
  · have h8 := of_decide_eq_false h9
    simp only [i0 hj (show 3 ≤ 100 by decide), ci hj (show 3 ≤ 100 by decide), cond_true, if_t (show S 0 1 = 0 ∨ 30 ≤ S 0 5 by omega)] at hQ
    exact hQ G eqx_rfl hI
  · simp only [h9, cond_false] at hQ
    exact hQ G eqx_rfl hI
end ASK
end
section
/-! sorts, oiling: the faces. -/
section FACE3
variable {CT : sm_CT} {G : Nat → Nat → Int32} {L : Nat → Nat → Int64} {Q : sm_Q} {S : Nat → Nat → Nat} {c : Nat} {h : sm_H}
def A_sorts (S : Nat → Nat → Nat) (x y : Int32) : Int32 := cond (inb x (S 0 1)) (cond (inb y 2) (if S 0 1 = 0 ∨ 30 ≤ S 0 5 then -103 else sortsR S x.toNatClampNeg y.toNatClampNeg) (-102)) (-101)
def N_sorts (S : Nat → Nat → Nat) (x y : Int32) : Nat → Nat → Nat := cond (inb x (S 0 1)) (cond (inb y 2) (if S 0 1 = 0 ∨ 30 ≤ S 0 5 then S else incA S) S) S
theorem R_sorts (hR : RS c S) (x y : Int32) : RS c (N_sorts S x y) := by
  unfold N_sorts
  cases inb x (S 0 1) with
  | false => exact hR
  | true =>
    cases inb y 2 with
    | false => exact hR
    | true =>
      simp only [cond_true]
      split
      · exact hR
      · exact R_inc hR ‹_›
theorem o_in {x : Int32} {n : Nat} (hn : n < 2 ^ 20) (h0 : ¬ x < nI 0) (h1 : x ≤ nI n) : inb x (n + 1) = true := by
  obtain ⟨j, hj, e⟩ := wi_t (x := x) (y := nI n) (n := n + 1) (by omega) (by rw [nI_toInt (by omega)]; omega) (Int32.not_lt.mp h0) h1
  rw [e]
  exact inb_n hj (by omega)
theorem o_gt {x : Int32} {n : Nat} (hn : n < 2 ^ 20) (h1 : ¬ x ≤ nI n) : inb x (n + 1) = false := by
  cases hb : inb x (n + 1) with
  | false => rfl
  | true =>
    obtain ⟨j, hj, e⟩ := inb_ex hb
    rw [e] at h1
    exact absurd (nI_le (by omega) (by omega)) h1
set_option maxRecDepth 100000 in
set_option maxHeartbeats 4000000 in
theorem f_sorts (hC : sm_C 16 CT) (hR : RS c S) (hI : Ic S G) {x y : Int32} (hQ : ∀ G', eqx clsP G G' → Ic (N_sorts S x y) G' → Q (some (.int (A_sorts S x y))) (hp G' L)) : CT 58 [.ref 0, .int x, .int y] (hp G L) Q := by
  obtain ⟨hdR, hnR, -⟩ := id hR
  obtain ⟨r1, r2, r3, r4⟩ := id hdR
  obtain ⟨e1, e2, -⟩ := id hI.1
  have ea := hI.2.2.1.2.2
  have r30 := hR.2.2.2.2.2.1
  have hD := hH_cD hI.1
  have hL := hH_cL hI.1
  refine sm_meth hC [some (.ref 0), some (.int x), some (.int y), none] rfl rfl rfl ?_
  unfold A_sorts N_sorts at hQ
  refine sm_body [] 80 sm_k58 (fun CT K hC hK => ?_)
  repeat' first
    | (with_reducible refine And.intro ?_ ?_)
    | ((with_reducible intro h9); first | exact absurd h9 (by decide) | (replace h9 := of_decide_eq_false (p := S 0 1 = 0 ∨ 30 ≤ S 0 5) (sb_f h9)) | (replace h9 := of_decide_eq_true (p := S 0 1 = 0 ∨ 30 ≤ S 0 5) (sb_t h9)) | (replace h9 := sb_f h9) | ((have h8 := inb_ex (x := x) (sb_t h9); obtain ⟨j, hj, rfl⟩ := h8)) | skip)
    | (with_reducible exact zn_in (by omega) (by decide))
    | (with_reducible exact z01) | (with_reducible exact z11) | (with_reducible exact zb01 _)
    | (with_reducible exact zn_inb (by omega) (by decide))
    | (with_reducible exact zn_ina (by omega) (by decide))
    | (with_reducible exact zn_inc (by omega) (by decide))
    | ((conv => whnf); first | (with_reducible refine And.intro ?_ ?_) | ((with_reducible intro h9); first | exact absurd h9 (by decide) | (replace h9 := of_decide_eq_false (p := S 0 1 = 0 ∨ 30 ≤ S 0 5) (sb_f h9)) | (replace h9 := of_decide_eq_true (p := S 0 1 = 0 ∨ 30 ≤ S 0 5) (sb_t h9)) | (replace h9 := sb_f h9) | ((have h8 := inb_ex (x := x) (sb_t h9); obtain ⟨j, hj, rfl⟩ := h8)) | skip) | (with_reducible refine hK _ _ _ _ (sm_un ?_)) | (with_reducible refine b_hasVane (hC.mono (by omega)) e2 r2 ?_) | (with_reducible refine s_isInquiryClosed (hC.mono (by omega)) e2 r2 ea r30 ?_))
  · (simp only [i0 hj (show S 0 1 ≤ 100 by omega), (inb_lo h9 : inb y 2 = false), Bool.and_true, Bool.true_and, Bool.false_and, Bool.and_false, cond_true, cond_false] at hQ; exact hQ G eqx_rfl hI)
  · obtain ⟨k, hk, rfl⟩ := inb_ex (o_in (n := 1) (by decide) ‹¬ y < nI 0› ‹y ≤ nI 1›)
    simp only [i0 hj (show S 0 1 ≤ 100 by omega), i0 hk (show 2 ≤ 100 by decide), ci hj (show S 0 1 ≤ 100 by omega), ci hk (show 2 ≤ 100 by decide), cond_true, if_f ‹¬ (S 0 1 = 0 ∨ 30 ≤ S 0 5)›] at hQ
    have e := hQ _ (eqx_su 0 _ rfl eqx_rfl) (I_inc hI)
    have hlt := bq_lt (c := fun i => bn (fS S j i)) 20
    unfold sortsR at e
    conv => whnf
    simp only [hp_0, hp_1, hp_2, hp_3, hp_4, hp_5, hp_6, hp_7, hp_8, hp_9, hp_10, hp_11, hp_12, hp_13, hp_14, hp_15, hp_16, hp_17, hp_18, hp_19, hp_20, hp_22, hp_23, hp_24, hp_25, hp_26, hp_27, hp_28, hp_29, hp_30, hp_31, hp_32, hp_33, hp_34, hp_35, hp_36, hp_37, hp_38, hp_39, hp_40, hp_41, hp_42, hp_43, hp_44, hp_45, hp_46, hp_47, hp_48, hp_49, hf0_5, hf0_6, hf0_7, hf1_1, hf3_0, hf3_2, hf3_6, hf10_0, hf10_2, hf10_6, hf17_3, hf17_4, hf20_3, hf20_4, hf30_0, hf30_1, hf30_3, hf30_7, hf30_11, hf30_12, hf30_20, hf30_22, hf30_23, hf30_24, hf30_25, hf30_21, hf30_31, upd_su, updL_su]
    refine s_possibleSorts (S := S) (G := su G 0 (su (G 0) 7 (G 0 7 + nI 1))) (hC.mono (by omega)) hD hdR hL hnR hj ?_
    repeat' first
      | (with_reducible refine And.intro ?_ ?_)
      | ((with_reducible intro h9); first | exact absurd h9 (by decide) | skip)
      | (with_reducible exact zn_in (by omega) (by decide))
      | (with_reducible exact z01) | (with_reducible exact z11) | (with_reducible exact zb01 _)
      | (with_reducible exact zn_inb (by omega) (by decide))
      | (with_reducible exact zn_ina (by omega) (by decide))
      | (with_reducible exact zn_inc (by omega) (by decide))
      | ((conv => whnf); first | (with_reducible refine And.intro ?_ ?_) | ((with_reducible intro h9); first | exact absurd h9 (by decide) | skip) | (with_reducible refine hK _ _ _ _ (sm_un ?_)) | (with_reducible refine s_bitCount (hC.mono (by omega)) hlt ?_) | (with_reducible refine s_leastOf (hC.mono (by omega)) ?_))
    · rw [if_f (zneq ‹¬ nI k = nI 0›)] at e
      exact e
    · rw [if_t (zeq (by omega) (by omega) ‹nI k = nI 0›), ← pc_ct] at e
      exact e
  · obtain ⟨k, hk, rfl⟩ := inb_ex (o_in (n := 1) (by decide) ‹¬ y < nI 0› ‹y ≤ nI 1›)
    simp only [i0 hj (show S 0 1 ≤ 100 by omega), i0 hk (show 2 ≤ 100 by decide), cond_true, if_t ‹S 0 1 = 0 ∨ 30 ≤ S 0 5›] at hQ
    exact hQ G eqx_rfl hI
  · (simp only [i0 hj (show S 0 1 ≤ 100 by omega), (o_gt (n := 1) (by decide) h9 : inb y 2 = false), Bool.and_true, Bool.true_and, Bool.false_and, Bool.and_false, cond_true, cond_false] at hQ; exact hQ G eqx_rfl hI)
  · (simp only [h9, Bool.and_true, Bool.true_and, Bool.false_and, Bool.and_false, cond_true, cond_false] at hQ; exact hQ G eqx_rfl hI)
set_option maxRecDepth 100000 in
set_option maxHeartbeats 4000000 in
theorem g_sorts (hC : sm_C 9 CT) (hR : RS c S) (hI : Im c S G) {x y : Int32} (hQ : ∀ G', eqx mdlP G G' → Im c (N_sorts S x y) G' → Q (some (.int (A_sorts S x y))) (hp G' L)) : CT 124 [.ref 30, .int x, .int y] (hp G L) Q := by
  obtain ⟨hdR, hnR, -⟩ := id hR
  obtain ⟨r1, r2, r3, r4⟩ := id hdR
  obtain ⟨i1, i2, i3, i4, i5, i6, i7⟩ := id hI
  have r30 := hR.2.2.2.2.2.1
  have J := J_inc hI
  have e3 := i1.2.1
  have ea := i4.2
  refine sm_meth hC [some (.ref 30), some (.int x), some (.int y)] rfl rfl rfl ?_
  unfold A_sorts N_sorts at hQ
  refine sm_body [] 80 sm_k124 (fun CT K hC hK => ?_)
  repeat' first
    | (with_reducible refine And.intro ?_ ?_)
    | ((with_reducible intro h9); first | exact absurd h9 (by decide) | (replace h9 := of_decide_eq_false (p := 0 < S 0 1 ∧ S 0 5 < 30) (sb_f h9)) | (replace h9 := of_decide_eq_true (p := 0 < S 0 1 ∧ S 0 5 < 30) (sb_t h9)) | (replace h9 := sb_f h9) | ((have h8 := inb_ex (x := x) (sb_t h9); obtain ⟨j, hj, rfl⟩ := h8)) | ((have h8 := inb_ex (x := y) (sb_t h9); obtain ⟨k, hk, rfl⟩ := h8)) | skip)
    | (with_reducible exact zn_in (by omega) (by decide))
    | (with_reducible exact z01) | (with_reducible exact z11) | (with_reducible exact zb01 _)
    | (with_reducible exact zn_inb (by omega) (by decide))
    | (with_reducible exact zn_ina (by omega) (by decide))
    | (with_reducible exact zn_inc (by omega) (by decide))
    | ((conv => whnf); first | (with_reducible refine And.intro ?_ ?_) | ((with_reducible intro h9); first | exact absurd h9 (by decide) | (replace h9 := of_decide_eq_false (p := 0 < S 0 1 ∧ S 0 5 < 30) (sb_f h9)) | (replace h9 := of_decide_eq_true (p := 0 < S 0 1 ∧ S 0 5 < 30) (sb_t h9)) | (replace h9 := sb_f h9) | ((have h8 := inb_ex (x := x) (sb_t h9); obtain ⟨j, hj, rfl⟩ := h8)) | ((have h8 := inb_ex (x := y) (sb_t h9); obtain ⟨k, hk, rfl⟩ := h8)) | skip) | (with_reducible refine hK _ _ _ _ (sm_un ?_)) | (with_reducible refine b_isVane (hC.mono (by omega)) e3 r2 ?_) | (with_reducible refine b_withinM (n := 2) (hC.mono (by omega)) (by decide) rfl ?_) | (with_reducible refine s_mayAsk (hC.mono (by omega)) e3 r2 ea r30 ?_))
  · conv => whnf
    simp only [hp_0, hp_1, hp_2, hp_3, hp_4, hp_5, hp_6, hp_7, hp_8, hp_9, hp_10, hp_11, hp_12, hp_13, hp_14, hp_15, hp_16, hp_17, hp_18, hp_19, hp_20, hp_22, hp_23, hp_24, hp_25, hp_26, hp_27, hp_28, hp_29, hp_30, hp_31, hp_32, hp_33, hp_34, hp_35, hp_36, hp_37, hp_38, hp_39, hp_40, hp_41, hp_42, hp_43, hp_44, hp_45, hp_46, hp_47, hp_48, hp_49, hf0_5, hf0_6, hf0_7, hf1_1, hf3_0, hf3_2, hf3_6, hf10_0, hf10_2, hf10_6, hf17_3, hf17_4, hf20_3, hf20_4, hf30_0, hf30_1, hf30_3, hf30_7, hf30_11, hf30_12, hf30_20, hf30_22, hf30_23, hf30_24, hf30_25, hf30_21, hf30_31, upd_su, updL_su, su_self]
    refine s_sortsNow (S := S) (G := su G 30 (su (G 30) 11 (G 30 11 + nI 1))) (hC.mono (by omega)) i1 hdR i2 hnR hj hk (fun G' hx hp => ?_)
    simp only [i0 hj (show S 0 1 ≤ 100 by omega), i0 hk (show 2 ≤ 100 by decide), ci hj (show S 0 1 ≤ 100 by omega), ci hk (show 2 ≤ 100 by decide), cond_true, if_f (show ¬ (S 0 1 = 0 ∨ 30 ≤ S 0 5) by omega)] at hQ
    exact hQ G' (eqx_trans (eqx_su 30 _ rfl eqx_rfl) (eqx_sub rfl hx)) (Im_39 (eqx_sub rfl hx) (hp i7) J)
  · (simp only [i0 hj (show S 0 1 ≤ 100 by omega), i0 hk (show 2 ≤ 100 by decide), if_t (show S 0 1 = 0 ∨ 30 ≤ S 0 5 by omega), Bool.and_true, Bool.true_and, Bool.false_and, Bool.and_false, cond_true, cond_false] at hQ; exact hQ G eqx_rfl hI)
  · (simp only [i0 hj (show S 0 1 ≤ 100 by omega), h9, Bool.and_true, Bool.true_and, Bool.false_and, Bool.and_false, cond_true, cond_false] at hQ; exact hQ G eqx_rfl hI)
  · (simp only [h9, Bool.and_true, Bool.true_and, Bool.false_and, Bool.and_false, cond_true, cond_false] at hQ; exact hQ G eqx_rfl hI)
-- oiling
def A_oiling (S : Nat → Nat → Nat) (x y z : Int32) : Int32 := cond (inb x (S 0 0)) (cond (inb y 4 && inb z 2) (if S 0 1 = 0 ∨ ¬ (∀ i, i < x.toNatClampNeg + 1 → S 1 i < 4) then -103 else oilR S x.toNatClampNeg y.toNatClampNeg z.toNatClampNeg) (-102)) (-101)
set_option maxRecDepth 100000 in
set_option maxHeartbeats 4000000 in
theorem f_oiling (hC : sm_C 7 CT) (hR : RS c S) (hI : Ic S G) {x y z : Int32} (hQ : Q (some (.int (A_oiling S x y z))) (hp G L)) : CT 59 [.ref 0, .int x, .int y, .int z] (hp G L) Q := by
  obtain ⟨hdR, hnR, -⟩ := id hR
  obtain ⟨r1, r2, r3, r4⟩ := id hdR
  obtain ⟨e1, e2, -⟩ := id hI.1
  have hD := hH_cD hI.1
  refine sm_meth hC [some (.ref 0), some (.int x), some (.int y), some (.int z)] rfl rfl rfl ?_
  unfold A_oiling at hQ
  have hf16 : fw (PO S x.toNatClampNeg y.toNatClampNeg) (2 ^ S 0 1) ≤ 16 := by
    have h1 := fw_lt (P := PO S x.toNatClampNeg y.toNatClampNeg) (2 ^ S 0 1)
    have h2 := pow_vn r2
    omega
  refine sm_body [] 80 sm_k59 (fun CT K hC hK => ?_)
  repeat' first
    | (with_reducible refine And.intro ?_ ?_)
    | ((with_reducible intro h9); first | exact absurd h9 (by decide) | ((rw [e2] at h9; replace h9 := zneq h9)) | ((rw [e2] at h9; replace h9 := zeq (b := 0) (by omega) (by omega) h9)) | (replace h9 := sb_f h9) | ((have h8 := inb_ex (x := x) (sb_t h9); obtain ⟨j, hj, rfl⟩ := h8)) | ((have h8 := inb_ex (x := y) (sb_t h9); obtain ⟨k, hk, rfl⟩ := h8)) | (replace h9 := of_decide_eq_true (sb_t h9)) | skip)
    | (with_reducible exact zn_in (by omega) (by decide))
    | (with_reducible exact z01) | (with_reducible exact z11) | (with_reducible exact zb01 _)
    | (with_reducible exact zn_inb (by omega) (by decide))
    | (with_reducible exact zn_ina (by omega) (by decide))
    | (with_reducible exact zn_inc (by omega) (by decide))
    | ((conv => whnf); first | (with_reducible refine And.intro ?_ ?_) | ((with_reducible intro h9); first | exact absurd h9 (by decide) | ((rw [e2] at h9; replace h9 := zneq h9)) | ((rw [e2] at h9; replace h9 := zeq (b := 0) (by omega) (by omega) h9)) | (replace h9 := sb_f h9) | ((have h8 := inb_ex (x := x) (sb_t h9); obtain ⟨j, hj, rfl⟩ := h8)) | ((have h8 := inb_ex (x := y) (sb_t h9); obtain ⟨k, hk, rfl⟩ := h8)) | (replace h9 := of_decide_eq_true (sb_t h9)) | skip) | (with_reducible refine hK _ _ _ _ (sm_un ?_)) | (with_reducible refine b_hasHour (hC.mono (by omega)) e1 r1 ?_) | (with_reducible refine b_isQuarter (hC.mono (by omega)) ?_) | ((have h8 := ci hj (show S 0 0 ≤ 100 by omega); refine s_isKnownUntil (hC.mono (by omega)) hD hdR hj ?_)))
  · simp only [i0 hj (show S 0 0 ≤ 100 by omega), h9, Bool.false_and, cond_true, cond_false] at hQ
    exact hQ
  · simp only [i0 hj (show S 0 0 ≤ 100 by omega), i0 hk (show 4 ≤ 100 by decide), (inb_lo h9 : inb z 2 = false), Bool.and_false, cond_true, cond_false] at hQ
    exact hQ
  · simp only [i0 hj (show S 0 0 ≤ 100 by omega), i0 hk (show 4 ≤ 100 by decide), (o_in (n := 1) (by decide) ‹¬ z < nI 0› ‹z ≤ nI 1› : inb z 2 = true), Bool.and_true, cond_true] at hQ
    rw [if_t (Or.inl ‹S 0 1 = 0›)] at hQ
    exact hQ
  · obtain ⟨q, hq, rfl⟩ := inb_ex (o_in (n := 1) (by decide) ‹¬ z < nI 0› ‹z ≤ nI 1›)
    have hk4 : ∀ (i : Nat), i < j + 1 → S 1 i < 4 := ‹_›
    simp only [i0 hj (show S 0 0 ≤ 100 by omega), i0 hk (show 4 ≤ 100 by decide), i0 hq (show 2 ≤ 100 by decide), ci hj (show S 0 0 ≤ 100 by omega), ci hk (show 4 ≤ 100 by decide), ci hq (show 2 ≤ 100 by decide), Bool.and_true, cond_true] at hQ hf16
    rw [if_f (fun z => by rcases z with z | z; exact absurd z ‹S 0 1 ≠ 0›; exact z hk4)] at hQ
    unfold oilR at hQ
    repeat' first
      | (with_reducible refine And.intro ?_ ?_)
      | ((with_reducible intro h9); first | exact absurd h9 (by decide) | skip)
      | (with_reducible exact zn_in (by omega) (by decide))
      | (with_reducible exact z01) | (with_reducible exact z11) | (with_reducible exact zb01 _)
      | (with_reducible exact zn_inb (by omega) (by decide))
      | (with_reducible exact zn_ina (by omega) (by decide))
      | (with_reducible exact zn_inc (by omega) (by decide))
      | ((conv => whnf); first | (with_reducible refine And.intro ?_ ?_) | ((with_reducible intro h9); first | exact absurd h9 (by decide) | skip) | (with_reducible refine hK _ _ _ _ (sm_un ?_)) | (with_reducible refine s_fewestToOil (hC.mono (by omega)) hD hdR hj hk hk4 ?_) | (with_reducible refine s_sizeOrSet (hC.mono (by omega)) hf16 hq ?_))
    exact hQ
  · simp only [i0 hj (show S 0 0 ≤ 100 by omega), ci hj (show S 0 0 ≤ 100 by omega), i0 hk (show 4 ≤ 100 by decide), (o_in (n := 1) (by decide) ‹¬ z < nI 0› ‹z ≤ nI 1› : inb z 2 = true), Bool.and_true, cond_true] at hQ
    rw [if_t (Or.inr (of_decide_eq_false h9))] at hQ
    exact hQ
  · simp only [i0 hj (show S 0 0 ≤ 100 by omega), i0 hk (show 4 ≤ 100 by decide), (o_gt (n := 1) (by decide) h9 : inb z 2 = false), Bool.and_false, cond_true, cond_false] at hQ
    exact hQ
  · simp only [h9, cond_false] at hQ
    exact hQ
set_option maxRecDepth 100000 in
set_option maxHeartbeats 4000000 in
theorem g_oiling (hC : sm_C 6 CT) (hR : RS c S) (hI : Im c S G) {x y z : Int32} (hQ : Q (some (.int (A_oiling S x y z))) (hp G L)) : CT 129 [.ref 30, .int x, .int y, .int z] (hp G L) Q := by
  obtain ⟨hdR, hnR, -⟩ := id hR
  obtain ⟨r1, r2, r3, r4⟩ := id hdR
  obtain ⟨i1, i2, i3, i4, i5, i6, i7⟩ := id hI
  obtain ⟨e1, e2, -⟩ := id i1
  refine sm_meth hC [some (.ref 30), some (.int x), some (.int y), some (.int z)] rfl rfl rfl ?_
  unfold A_oiling at hQ
  refine sm_body [] 80 sm_k129 (fun CT K hC hK => ?_)
  repeat' first
    | (with_reducible refine And.intro ?_ ?_)
    | ((with_reducible intro h9); first | exact absurd h9 (by decide) | ((rw [e2] at h9; replace h9 := zneq h9)) | ((rw [e2] at h9; replace h9 := zeq (b := 0) (by omega) (by omega) h9)) | (replace h9 := sb_f h9) | ((have h8 := inb_ex (x := x) (sb_t h9); obtain ⟨j, hj, rfl⟩ := h8)) | ((have h8 := inb_ex (x := y) (sb_t h9); obtain ⟨k, hk, rfl⟩ := h8)) | ((have h8 := inb_ex (x := z) (sb_t h9); obtain ⟨q, hq, rfl⟩ := h8)) | (replace h9 := of_decide_eq_true (sb_t h9)) | skip)
    | (with_reducible exact zn_in (by omega) (by decide))
    | (with_reducible exact z01) | (with_reducible exact z11) | (with_reducible exact zb01 _)
    | (with_reducible exact zn_inb (by omega) (by decide))
    | (with_reducible exact zn_ina (by omega) (by decide))
    | (with_reducible exact zn_inc (by omega) (by decide))
    | ((conv => whnf); first | (with_reducible refine And.intro ?_ ?_) | ((with_reducible intro h9); first | exact absurd h9 (by decide) | ((rw [e2] at h9; replace h9 := zneq h9)) | ((rw [e2] at h9; replace h9 := zeq (b := 0) (by omega) (by omega) h9)) | (replace h9 := sb_f h9) | ((have h8 := inb_ex (x := x) (sb_t h9); obtain ⟨j, hj, rfl⟩ := h8)) | ((have h8 := inb_ex (x := y) (sb_t h9); obtain ⟨k, hk, rfl⟩ := h8)) | ((have h8 := inb_ex (x := z) (sb_t h9); obtain ⟨q, hq, rfl⟩ := h8)) | (replace h9 := of_decide_eq_true (sb_t h9)) | skip) | (with_reducible refine hK _ _ _ _ (sm_un ?_)) | (with_reducible refine b_isHour (hC.mono (by omega)) e1 r1 ?_) | (with_reducible refine b_isQuarterM (hC.mono (by omega)) ?_) | (with_reducible refine b_withinM (n := 2) (hC.mono (by omega)) (by decide) rfl ?_) | (refine s_isKnownTill (hC.mono (by omega)) i1 hdR hj ?_))
  · simp only [i0 hj (show S 0 0 ≤ 100 by omega), h9, Bool.false_and, cond_true, cond_false] at hQ
    exact hQ
  · simp only [i0 hj (show S 0 0 ≤ 100 by omega), i0 hk (show 4 ≤ 100 by decide), i0 hq (show 2 ≤ 100 by decide), Bool.and_true, cond_true] at hQ
    rw [if_t (Or.inl ‹S 0 1 = 0›)] at hQ
    exact hQ
  · have hk4 : ∀ (i : Nat), i < j + 1 → S 1 i < 4 := h9
    simp only [i0 hj (show S 0 0 ≤ 100 by omega), i0 hk (show 4 ≤ 100 by decide), i0 hq (show 2 ≤ 100 by decide), ci hj (show S 0 0 ≤ 100 by omega), ci hk (show 4 ≤ 100 by decide), ci hq (show 2 ≤ 100 by decide), Bool.and_true, cond_true] at hQ
    rw [if_f (fun z => by rcases z with z | z; exact absurd z ‹S 0 1 ≠ 0›; exact z hk4)] at hQ
    repeat' first
      | (with_reducible refine And.intro ?_ ?_)
      | ((with_reducible intro h9); first | exact absurd h9 (by decide) | skip)
      | (with_reducible exact zn_in (by omega) (by decide))
      | (with_reducible exact z01) | (with_reducible exact z11) | (with_reducible exact zb01 _)
      | (with_reducible exact zn_inb (by omega) (by decide))
      | (with_reducible exact zn_ina (by omega) (by decide))
      | (with_reducible exact zn_inc (by omega) (by decide))
      | ((conv => whnf); first | (with_reducible refine And.intro ?_ ?_) | ((with_reducible intro h9); first | exact absurd h9 (by decide) | skip) | (with_reducible refine hK _ _ _ _ (sm_un ?_)) | (with_reducible refine s_oilingNow (hC.mono (by omega)) i1 hdR hj hk hq hk4 ?_))
    exact hQ
  · simp only [i0 hj (show S 0 0 ≤ 100 by omega), ci hj (show S 0 0 ≤ 100 by omega), i0 hk (show 4 ≤ 100 by decide), i0 hq (show 2 ≤ 100 by decide), Bool.and_true, cond_true] at hQ
    rw [if_t (Or.inr (of_decide_eq_false h9))] at hQ
    exact hQ
  · simp only [i0 hj (show S 0 0 ≤ 100 by omega), i0 hk (show 4 ≤ 100 by decide), h9, Bool.and_false, cond_true, cond_false] at hQ
    exact hQ
  · simp only [h9, cond_false] at hQ
    exact hQ
end FACE3
end
section
/-! gusts: both sides. -/
theorem zl_and (a b : Nat) : lN a &&& lN b = lN (a &&& b) := by
  apply Int64.toBitVec_inj.1
  show BitVec.ofNat 64 a &&& BitVec.ofNat 64 b = BitVec.ofNat 64 (a &&& b)
  apply BitVec.eq_of_getLsbD_eq
  intro i hi
  simp [hi]
def ns (s : Nat) : Nat := (1103515245 * s + 12345) % 2147483648
theorem ns_lt (s : Nat) : ns s < 2147483648 := Nat.mod_lt _ (by decide)
theorem and31 (x : Nat) : x &&& 2147483647 = x % 2147483648 := Nat.and_two_pow_sub_one_eq_mod x 31
theorem ns_i (s : Nat) : nI 1103515245 * nI s + nI 12345 &&& nI 2147483647 = nI (ns s) := by
  rw [pk_mul, nI_add, zn_and, and31]
  rfl
theorem ns_l (s : Nat) : lN 1103515245 * lN s + lN 12345 &&& lN 2147483647 = lN (ns s) := by
  rw [lN_mul, lN_add, zl_and, and31]
  rfl
/-- the seed behind h hours -/
def sd (S : Nat → Nat → Nat) (s : Nat) : Nat → Nat
  | 0 => s
  | h + 1 => cond (Nat.beq (S 1 h) 4) (ns (sd S s h)) (sd S s h)
def gw (S : Nat → Nat → Nat) (s h : Nat) : Nat := cond (Nat.beq (S 1 h) 4) (ns (sd S s h) / 65536 % 4) (S 1 h)
def hitq (S : Nat → Nat → Nat) (s h : Nat) : Bool := decide (S 0 1 < 2 * ct (fun v => Nat.beq (ps S (gw S s) v (h + 1)) (gw S s h)) (S 0 1))
/-- the seed behind d days -/
def sdd (S : Nat → Nat → Nat) (s : Nat) : Nat → Nat
  | 0 => s
  | d + 1 => sd S (sdd S s d) (S 0 0)
def hits (S : Nat → Nat → Nat) (s : Nat) : Nat → Nat
  | 0 => 0
  | d + 1 => hits S s d + ct (hitq S (sdd S s d)) (S 0 0)
theorem sd_lt {S : Nat → Nat → Nat} {s : Nat} (h : s < 2147483648) : ∀ k, sd S s k < 2147483648
  | 0 => h
  | k + 1 => by
    rw [sd]
    cases Nat.beq (S 1 k) 4
    · exact sd_lt h k
    · exact ns_lt _
theorem sdd_lt {S : Nat → Nat → Nat} {s : Nat} (h : s < 2147483648) : ∀ k, sdd S s k < 2147483648
  | 0 => h
  | k + 1 => sd_lt (sdd_lt h k) _
theorem gw_lt {S : Nat → Nat → Nat} (hR : dR S) {s h : Nat} (hh : h < S 0 0) : gw S s h < 4 := by
  unfold gw
  have := hR.2.2.1 h hh
  cases hb : Nat.beq (S 1 h) 4 with
  | true => show _ % 4 < 4; omega
  | false => have := Nat.ne_of_beq_eq_false hb; show S 1 h < 4; omega
theorem hits_le {S : Nat → Nat → Nat} {s : Nat} (h6 : S 0 0 ≤ 6) : ∀ d, hits S s d ≤ 6 * d
  | 0 => Nat.le_refl 0
  | d + 1 => by
    have h1 := hits_le (s := s) h6 d
    have h2 := ct_le (P := hitq S (sdd S s d)) (S 0 0)
    rw [hits]
    omega
section GUSTS
variable {CT : sm_CT} {G : Nat → Nat → Int32} {L : Nat → Nat → Int64} {Q : sm_Q} {S : Nat → Nat → Nat} {c : Nat} {h : sm_H}
set_option maxRecDepth 100000 in
set_option maxHeartbeats 4000000 in
theorem s_nextSeed (hC : sm_C 1 CT) {s : Nat} (hQ : Q (some (.int (nI (ns s)))) h) : CT 77 [.int (nI s)] h Q := by
  refine sm_meth hC [some (.int (nI s))] rfl rfl rfl ?_
  refine sm_body [] 80 sm_k77 (fun CT K hC hK => ?_)
  rw [← ns_i] at hQ
  repeat' first
    | (with_reducible refine And.intro ?_ ?_)
    | ((with_reducible intro h9); first | exact absurd h9 (by decide) | skip)
    | (with_reducible exact zn_in (by omega) (by decide))
    | (with_reducible exact z01) | (with_reducible exact z11) | (with_reducible exact zb01 _)
    | (with_reducible exact zn_inb (by omega) (by decide))
    | (with_reducible exact zn_ina (by omega) (by decide))
    | (with_reducible exact zn_inc (by omega) (by decide))
    | ((conv => whnf); first | (with_reducible refine And.intro ?_ ?_) | ((with_reducible intro h9); first | exact absurd h9 (by decide) | skip) | (with_reducible refine hK _ _ _ _ (sm_un ?_)))
  exact hQ
def okG (x y z : Int32) : Prop := nI 1 ≤ x ∧ x ≤ nI 40 ∧ nI 0 ≤ y ∧ inb z 2 = true
def A_gusts (S : Nat → Nat → Nat) (x y z : Int32) : Int32 := if nI 1 ≤ x ∧ x ≤ nI 40 ∧ nI 0 ≤ y ∧ inb z 2 = true then (if S 0 0 = 0 then -103 else nI (if z.toNatClampNeg = 0 then hits S y.toNatClampNeg x.toNatClampNeg else sdd S y.toNatClampNeg x.toNatClampNeg)) else -102
set_option maxRecDepth 100000 in
set_option maxHeartbeats 4000000 in
theorem f_gusts (hC : sm_C 5 CT) (hR : RS c S) (hI : Ic S G) {x y z : Int32} (hQ : Q (some (.int (A_gusts S x y z))) (hp G L)) : CT 60 [.ref 0, .int x, .int y, .int z] (hp G L) Q := by
  obtain ⟨hdR, hnR, -⟩ := id hR
  obtain ⟨r1, r2, r3, r4⟩ := id hdR
  obtain ⟨e1, e2, -, e4, -⟩ := id hI.1
  have hD := hH_cD hI.1
  refine sm_meth hC [some (.ref 0), some (.int x), some (.int y), some (.int z), none, none, none, none, none, none] rfl rfl rfl ?_
  unfold A_gusts at hQ
  by_cases hok : nI 1 ≤ x ∧ x ≤ nI 40 ∧ nI 0 ≤ y ∧ inb z 2 = true
  · rw [if_t hok] at hQ
    obtain ⟨o1, o2, o3, o4⟩ := id hok
    obtain ⟨q, hq, rfl⟩ := inb_ex o4
    obtain ⟨dd, hd, ex⟩ := wi_t (x := x) (y := nI 40) (n := 41) (by decide) rfl (Int32.le_trans (by decide) o1) o2
    subst ex
    have hd1 := zle (by decide) (by omega) o1
    obtain ⟨s, hs, ey⟩ := nI_of (x := y) (Int32.not_lt.mpr o3)
    subst ey
    have hs : s < 2147483648 := hs
    simp only [ci hq (show 2 ≤ 100 by decide), zn_clI (show dd < 2 ^ 31 by omega), zn_clI (show s < 2 ^ 31 by omega)] at hQ
    have lo : S 0 0 ≠ 0 → Q (some (.int (nI (if q = 0 then hits S s dd else sdd S s dd)))) (hp G L) → ∀ d, d ≤ dd → ∀ o7 o8 o9, sm_Wk 4 60 Q none 49 [some (.ref 0), some (.int (nI dd)), some (.int (nI s)), some (.int (nI q)), some (.int (nI (sdd S s d))), some (.int (nI (hits S s d))), some (.int (nI d)), o7, o8, o9] [] (hp G L) := by
      intro hn0 hQ
      refine up _ (fun d hdl ih o7 o8 o9 => ?_)
      have hsd := sdd_lt (S := S) hs d
      have inner : d < dd → ∀ k, k ≤ S 0 0 → ∀ o9, sm_Wk 4 60 Q none 67 [some (.ref 0), some (.int (nI dd)), some (.int (nI s)), some (.int (nI q)), some (.int (nI (sd S (sdd S s d) k))), some (.int (nI (hits S s d + ct (hitq S (sdd S s d)) k))), some (.int (nI d)), some (.int (nI (zp (S 0 1) (fun v => ps S (gw S (sdd S s d)) v k)))), some (.int (nI k)), o9] [] (hp G L) := by
        intro hl
        refine up _ (fun k hk ihk o9 => ?_)
        have hpl : ∀ v, v < S 0 1 → ∀ i, i ≤ S 0 0 → ps S (gw S (sdd S s d)) v i < 4 := fun v hv i hi => ps_lt (r4 v hv).2.1 i (fun j hj => gw_lt hdR (by omega))
        have hnl := ns_lt (sd S (sdd S s d) k)
        have hcl := ct_le (P := hitq S (sdd S s d)) k
        have hcv := ct_le (P := fun v => Nat.beq (ps S (gw S (sdd S s d)) v (k + 1)) (gw S (sdd S s d) k)) (S 0 1)
        have tail : k < S 0 0 → sm_Wk 4 60 Q none 113 [some (.ref 0), some (.int (nI dd)), some (.int (nI s)), some (.int (nI q)), some (.int (nI (sd S (sdd S s d) (k + 1)))), some (.int (nI (hits S s d + ct (hitq S (sdd S s d)) k))), some (.int (nI d)), some (.int (nI (zp (S 0 1) (fun v => ps S (gw S (sdd S s d)) v k)))), some (.int (nI k)), some (.int (nI (gw S (sdd S s d) k)))] [] (hp G L) := by
          intro hkl
          have hg := gw_lt hdR (s := sdd S s d) hkl
          refine sm_body [67] 120 sm_k60 (fun CT K hC hK => ?_)
          repeat' first
            | (with_reducible refine And.intro ?_ ?_)
            | ((with_reducible intro h9); first | exact absurd h9 (by decide) | (replace h9 := sb_f h9) | (replace h9 := sb_t h9) | skip)
            | (with_reducible exact zn_in (by omega) (by decide))
            | (with_reducible exact z01) | (with_reducible exact z11) | (with_reducible exact zb01 _)
            | (with_reducible exact zn_inb (by omega) (by decide))
            | (with_reducible exact zn_ina (by omega) (by decide))
            | (with_reducible exact zn_inc (by omega) (by decide))
            | ((conv => whnf); first | (with_reducible refine And.intro ?_ ?_) | ((with_reducible intro h9); first | exact absurd h9 (by decide) | (replace h9 := sb_f h9) | (replace h9 := sb_t h9) | skip) | (with_reducible refine hK _ _ _ _ (sm_un ?_)) | (with_reducible refine s_turnedPose (hC.mono (by omega)) hD hdR (fun v hv => hpl v hv k (by omega)) hg ?_) | (refine s_pointingAt (S := S) (f := fun v => ps S (gw S (sdd S s d)) v (k + 1)) (hC.mono (by omega)) e2 r2 (fun v hv => hpl v hv (k + 1) (by omega)) hg ?_) | (with_reducible refine s_isMoreThanHalf (hC.mono (by omega)) e2 r2 (by omega) ?_))
          · have e := ihk hkl (some (.int (nI (gw S (sdd S s d) k))))
            rw [ct, show hitq S (sdd S s d) k = false from h9] at e
            simp only [nI_add]; exact ⟨⟨e⟩⟩
          · have e := ihk hkl (some (.int (nI (gw S (sdd S s d) k))))
            rw [ct, show hitq S (sdd S s d) k = true from h9] at e
            simp only [nI_add]; exact ⟨⟨e⟩⟩
        refine sm_body [49, 67, 113] 120 sm_k60 (fun CT K hC hK => ?_)
        repeat' first
          | (with_reducible refine And.intro ?_ ?_)
          | ((with_reducible intro h9); first | exact absurd h9 (by decide) | (replace h9 := nle e1 (by omega) (by omega) h9) | (replace h9 := yle e1 (by omega) (by omega) h9) | ((rw [zn_clI (show k < 2 ^ 31 by omega), e4 k ‹_›, wI_m (r3 k ‹_›)] at h9)) | skip)
          | (with_reducible exact zn_in (by omega) (by decide))
          | (with_reducible exact z01) | (with_reducible exact z11) | (with_reducible exact zb01 _)
          | (with_reducible exact zn_inb (by omega) (by decide))
          | (with_reducible exact zn_ina (by omega) (by decide))
          | (with_reducible exact zn_inc (by omega) (by decide))
          | ((conv => whnf); first | (with_reducible refine And.intro ?_ ?_) | ((with_reducible intro h9); first | exact absurd h9 (by decide) | (replace h9 := nle e1 (by omega) (by omega) h9) | (replace h9 := yle e1 (by omega) (by omega) h9) | ((rw [zn_clI (show k < 2 ^ 31 by omega), e4 k ‹_›, wI_m (r3 k ‹_›)] at h9)) | skip) | (with_reducible refine hK _ _ _ _ (sm_un ?_)) | (with_reducible refine s_nextSeed (hC.mono (by omega)) ?_))
        · obtain rfl : k = S 0 0 := by omega
          simp only [nI_add]; exact ⟨⟨ih hl _ _ _⟩⟩
        · have e := tail ‹_›
          rw [sd, gw, beq_f h9] at e
          have h4 := r3 k ‹_›
          simp only [zn_clI (show k < 2 ^ 31 by omega), e4 k ‹_›, wI_t (show S 1 k < 4 by omega)]
          exact ⟨⟨e⟩⟩
        · have e := tail ‹_›
          rw [sd, gw, beq_t h9] at e
          simp only [pk_div (show ns (sd S (sdd S s d) k) < 2 ^ 31 by omega) (show 0 < 65536 by decide) (show 65536 < 2 ^ 31 by decide), zn_ir (show ns (sd S (sdd S s d) k) / 65536 < 2 ^ 31 by omega) (show 0 < 4 by decide) (show 4 < 2 ^ 31 by decide)]
          exact ⟨⟨e⟩⟩
      refine sm_body [49, 67] 120 sm_k60 (fun CT K hC hK => ?_)
      repeat' first
        | (with_reducible refine And.intro ?_ ?_)
        | ((with_reducible intro h9); first | exact absurd h9 (by decide) | (replace h9 := zle (by omega) (by omega) h9) | (replace h9 := znle (by omega) (by omega) h9) | skip)
        | (with_reducible exact zn_in (by omega) (by decide))
        | (with_reducible exact z01) | (with_reducible exact z11) | (with_reducible exact zb01 _)
        | (with_reducible exact zn_inb (by omega) (by decide))
        | (with_reducible exact zn_ina (by omega) (by decide))
        | (with_reducible exact zn_inc (by omega) (by decide))
        | ((conv => whnf); first | (with_reducible refine And.intro ?_ ?_) | ((with_reducible intro h9); first | exact absurd h9 (by decide) | (replace h9 := zle (by omega) (by omega) h9) | (replace h9 := znle (by omega) (by omega) h9) | skip) | (with_reducible refine hK _ _ _ _ (sm_un ?_)) | (with_reducible refine s_startPose (hC.mono (by omega)) hD hdR ?_))
      · obtain rfl : d = dd := by omega
        rw [if_f (zneq ‹¬ nI q = nI 0›)] at hQ
        exact hQ
      · obtain rfl : d = dd := by omega
        rw [if_t (zeq (by omega) (by decide) ‹nI q = nI 0›)] at hQ
        exact hQ
      · exact ⟨⟨inner h9 0 (Nat.zero_le _) o9⟩⟩
    refine sm_body [49] 80 sm_k60 (fun CT K hC hK => ?_)
    repeat' first
      | (with_reducible refine And.intro ?_ ?_)
      | ((with_reducible intro h9); first | exact absurd h9 (by decide) | (exact absurd (Int32.not_lt.mpr o1) (Decidable.not_not.mpr h9)) | (exact absurd o2 (Int32.not_le.mpr h9)) | (exact absurd (Int32.not_lt.mpr o3) (Decidable.not_not.mpr h9)) | (exact absurd (Int32.not_lt.mpr (nI_le (Nat.zero_le q) (by omega))) (Decidable.not_not.mpr h9)) | (exact absurd (nI_le (show q ≤ 1 by omega) (by decide)) h9) | ((rw [e1] at h9; replace h9 := zneq h9)) | ((rw [e1] at h9; replace h9 := zeq (by omega) (by omega) h9)) | skip)
      | (with_reducible exact zn_in (by omega) (by decide))
      | (with_reducible exact z01) | (with_reducible exact z11) | (with_reducible exact zb01 _)
      | (with_reducible exact zn_inb (by omega) (by decide))
      | (with_reducible exact zn_ina (by omega) (by decide))
      | (with_reducible exact zn_inc (by omega) (by decide))
      | ((conv => whnf); first | (with_reducible refine And.intro ?_ ?_) | ((with_reducible intro h9); first | exact absurd h9 (by decide) | (exact absurd (Int32.not_lt.mpr o1) (Decidable.not_not.mpr h9)) | (exact absurd o2 (Int32.not_le.mpr h9)) | (exact absurd (Int32.not_lt.mpr o3) (Decidable.not_not.mpr h9)) | (exact absurd (Int32.not_lt.mpr (nI_le (Nat.zero_le q) (by omega))) (Decidable.not_not.mpr h9)) | (exact absurd (nI_le (show q ≤ 1 by omega) (by decide)) h9) | ((rw [e1] at h9; replace h9 := zneq h9)) | ((rw [e1] at h9; replace h9 := zeq (by omega) (by omega) h9)) | skip) | (with_reducible refine hK _ _ _ _ (sm_un ?_)))
    · rw [if_f h9] at hQ
      exact ⟨⟨lo h9 hQ 0 (Nat.zero_le _) _ _ _⟩⟩
    · rw [if_t h9] at hQ
      exact hQ
  · rw [if_f hok] at hQ
    refine sm_body [49] 80 sm_k60 (fun CT K hC hK => ?_)
    repeat' first
      | (with_reducible refine And.intro ?_ ?_)
      | ((with_reducible intro h9); first | exact absurd h9 (by decide) | ((have h8 : z ≤ nI 1 := h9; exact absurd ⟨Int32.not_lt.mp ‹¬ x < nI 1›, Int32.not_lt.mp ‹¬ nI 40 < x›, Int32.not_lt.mp ‹¬ y < nI 0›, o_in (n := 1) (by decide) ‹¬ z < nI 0› h8⟩ hok)) | skip)
      | (with_reducible exact zn_in (by omega) (by decide))
      | (with_reducible exact z01) | (with_reducible exact z11) | (with_reducible exact zb01 _)
      | (with_reducible exact zn_inb (by omega) (by decide))
      | (with_reducible exact zn_ina (by omega) (by decide))
      | (with_reducible exact zn_inc (by omega) (by decide))
      | ((conv => whnf); first | (with_reducible refine And.intro ?_ ?_) | ((with_reducible intro h9); first | exact absurd h9 (by decide) | ((have h8 : z ≤ nI 1 := h9; exact absurd ⟨Int32.not_lt.mp ‹¬ x < nI 1›, Int32.not_lt.mp ‹¬ nI 40 < x›, Int32.not_lt.mp ‹¬ y < nI 0›, o_in (n := 1) (by decide) ‹¬ z < nI 0› h8⟩ hok)) | skip) | (with_reducible refine hK _ _ _ _ (sm_un ?_)))
    all_goals exact hQ
end GUSTS
end
section
/-! gusts of the other one. -/
section GUSTM
variable {CT : sm_CT} {G : Nat → Nat → Int32} {L : Nat → Nat → Int64} {Q : sm_Q} {S : Nat → Nat → Nat} {c : Nat} {h : sm_H}
def seedL (L : Nat → Nat → Int64) (s : Nat) : Nat → Nat → Int64 := su L 30 (su (L 30) 21 (lN s))
theorem seedL_self {s : Nat} (h : L 30 21 = lN s) : seedL L s = L := by
  unfold seedL
  rw [← h, su_self, su_self]
theorem seedL_2 {s t : Nat} : seedL (seedL L s) t = seedL L t := by
  unfold seedL
  rw [su_eq, su_su, su_su]
theorem seedL_21 {s : Nat} : seedL L s 30 21 = lN s := rfl
set_option maxRecDepth 100000 in
set_option maxHeartbeats 4000000 in
theorem s_draw (hC : sm_C 1 CT) {s : Nat} (hL : L 30 21 = lN s) (hQ : Q (some (.int (nI (ns s / 65536 % 4)))) (hp G (seedL L (ns s)))) : CT 130 [.ref 30, .int (nI 4)] (hp G L) Q := by
  have hl := ns_lt s
  have e : sm_lr (lN (ns s) / lN 65536) (nI 4).toInt64 = lN (ns s / 65536 % 4) := by
    rw [nI_l (by decide), pk_lDiv (by omega) (by decide) (by decide)]
    exact pk_lRem (by omega) (by decide) (by decide)
  refine sm_meth hC [some (.ref 30), some (.int (nI 4))] rfl rfl rfl ?_
  refine sm_body [] 80 sm_k130 (fun CT K hC hK => ?_)
  repeat' first
    | (with_reducible refine And.intro ?_ ?_)
    | ((with_reducible intro h9); first | exact absurd h9 (by decide) | skip)
    | (with_reducible exact zn_in (by omega) (by decide))
    | (with_reducible exact z01) | (with_reducible exact z11) | (with_reducible exact zb01 _)
    | (with_reducible exact zn_inb (by omega) (by decide))
    | (with_reducible exact zn_ina (by omega) (by decide))
    | (with_reducible exact zn_inc (by omega) (by decide))
    | ((conv => whnf); first | (with_reducible refine And.intro ?_ ?_) | ((with_reducible intro h9); first | exact absurd h9 (by decide) | skip) | (with_reducible refine hK _ _ _ _ (sm_un ?_)))
  conv => whnf
  simp only [hL, ns_l, hp_0, hp_1, hp_2, hp_3, hp_4, hp_5, hp_6, hp_7, hp_8, hp_9, hp_10, hp_11, hp_12, hp_13, hp_14, hp_15, hp_16, hp_17, hp_18, hp_19, hp_20, hp_22, hp_23, hp_24, hp_25, hp_26, hp_27, hp_28, hp_29, hp_30, hp_31, hp_32, hp_33, hp_34, hp_35, hp_36, hp_37, hp_38, hp_39, hp_40, hp_41, hp_42, hp_43, hp_44, hp_45, hp_46, hp_47, hp_48, hp_49, hf0_5, hf0_6, hf0_7, hf1_1, hf3_0, hf3_2, hf3_6, hf10_0, hf10_2, hf10_6, hf17_3, hf17_4, hf20_3, hf20_4, hf30_0, hf30_1, hf30_3, hf30_7, hf30_11, hf30_12, hf30_20, hf30_22, hf30_23, hf30_24, hf30_25, hf30_21, hf30_31, upd_su, updL_su, su_self, e, lN_i]
  exact hQ
set_option maxRecDepth 100000 in
set_option maxHeartbeats 4000000 in
theorem s_goDay (hC : sm_C 4 CT) (hD : mD S G) (hR : dR S) (hp0 : pA G) {s : Nat} (hs : s < 2147483648) (hL : L 30 21 = lN s)
    (hQ : ∀ G', eqx [39, 40] G G' → pA G' → Q (some (.int (nI (ct (hitq S s) (S 0 0))))) (hp G' (seedL L (sd S s (S 0 0))))) : CT 131 [.ref 30] (hp G L) Q := by
  obtain ⟨r1, r2, r3, r4⟩ := id hR
  refine sm_meth hC [some (.ref 30), none, none, none, none] rfl rfl rfl ?_
  have hpl : ∀ v, v < S 0 1 → ∀ i, i ≤ S 0 0 → ps S (gw S s) v i < 4 := fun v hv i hi => ps_lt (r4 v hv).2.1 i (fun j hj => gw_lt hR (by omega))
  have lo3 : ∀ G1, eqx [39, 40] G G1 → pA G1 → (∀ j, j < S 0 0 → G1 39 j = nI (gw S s j)) → (∀ v, v < S 0 1 → ∀ j, j < S 0 0 → G1 40 (6 * v + j) = nI (ps S (gw S s) v (j + 1))) → ∀ i, i ≤ S 0 0 → ∀ o3 o4, sm_Wk 3 131 Q none 71 [some (.ref 30), some (.int (nI (ct (hitq S s) i))), some (.int (nI i)), o3, o4] [] (hp G1 (seedL L (sd S s (S 0 0)))) := by
    intro G1 hx hpa hb hpt
    refine up _ (fun i hi ih o3 o4 => ?_)
    have f1 := mD_h (mD_x hx rfl hD)
    have f2 := mD_v (mD_x hx rfl hD)
    have inner : i < S 0 0 → ∀ v, v ≤ S 0 1 → sm_Wk 3 131 Q none 84 [some (.ref 30), some (.int (nI (ct (hitq S s) i))), some (.int (nI i)), some (.int (nI (ct (fun v => Nat.beq (ps S (gw S s) v (i + 1)) (gw S s i)) v))), some (.int (nI v))] [] (hp G1 (seedL L (sd S s (S 0 0)))) := by
      intro hl
      refine up _ (fun v hv ihv => ?_)
      have hcv := ct_le (P := fun v => Nat.beq (ps S (gw S s) v (i + 1)) (gw S s i)) v
      have hg := gw_lt hR (s := s) hl
      refine sm_body [71, 84] 120 sm_k131 (fun CT K hC hK => ?_)
      repeat' first
        | (with_reducible refine And.intro ?_ ?_)
        | ((with_reducible intro h9); first | exact absurd h9 (by decide) | (replace h9 := nle f2 (by omega) (by omega) h9) | (replace h9 := yle f2 (by omega) (by omega) h9) | ((rw [pk_mul, f2] at h9; replace h9 := zle (by omega) (by omega) h9)) | ((rw [pk_mul, f2] at h9; replace h9 := znle (by omega) (by omega) h9)) | ((rw [pk_mul, nI_add, zn_clI (show 6 * v + i < 2 ^ 31 by omega), zn_clI (show i < 2 ^ 31 by omega), hpt v ‹_› i hl, hb i hl] at h9)) | skip)
        | (with_reducible exact zn_in (by omega) (by decide))
        | (with_reducible exact z01) | (with_reducible exact z11) | (with_reducible exact zb01 _)
        | (with_reducible exact zn_inb (by omega) (by decide))
        | (with_reducible exact zn_ina (by omega) (by decide))
        | (with_reducible exact zn_inc (by omega) (by decide))
        | ((conv => whnf); first | (with_reducible refine And.intro ?_ ?_) | ((with_reducible intro h9); first | exact absurd h9 (by decide) | (replace h9 := nle f2 (by omega) (by omega) h9) | (replace h9 := yle f2 (by omega) (by omega) h9) | ((rw [pk_mul, f2] at h9; replace h9 := zle (by omega) (by omega) h9)) | ((rw [pk_mul, f2] at h9; replace h9 := znle (by omega) (by omega) h9)) | ((rw [pk_mul, nI_add, zn_clI (show 6 * v + i < 2 ^ 31 by omega), zn_clI (show i < 2 ^ 31 by omega), hpt v ‹_› i hl, hb i hl] at h9)) | skip) | (with_reducible refine hK _ _ _ _ (sm_un ?_)))
      · obtain rfl : v = S 0 1 := by omega
        have e := ih hl (some (.int (nI (ct (fun v => Nat.beq (ps S (gw S s) v (i + 1)) (gw S s i)) (S 0 1))))) (some (.int (nI (S 0 1))))
        have eh : hitq S s i = false := decide_eq_false (by omega)
        rw [ct, bn_f eh] at e
        simp only [nI_add]; exact ⟨⟨e⟩⟩
      · obtain rfl : v = S 0 1 := by omega
        have e := ih hl (some (.int (nI (ct (fun v => Nat.beq (ps S (gw S s) v (i + 1)) (gw S s i)) (S 0 1))))) (some (.int (nI (S 0 1))))
        have eh : hitq S s i = true := decide_eq_true (by omega)
        rw [ct, bn_t eh] at e
        simp only [nI_add]; exact ⟨⟨e⟩⟩
      · have e := ihv ‹_›
        have eh : (fun v => Nat.beq (ps S (gw S s) v (i + 1)) (gw S s i)) v = false := beq_f (zneq h9)
        rw [ct, bn_f eh] at e
        simp only [nI_add]; exact ⟨⟨e⟩⟩
      · have hp4 := hpl v ‹_› (i + 1) (by omega)
        have e := ihv ‹_›
        have eh : (fun v => Nat.beq (ps S (gw S s) v (i + 1)) (gw S s i)) v = true := beq_t (zeq (by omega) (by omega) h9)
        rw [ct, bn_t eh] at e
        simp only [nI_add]; exact ⟨⟨e⟩⟩
    refine sm_body [71, 84] 120 sm_k131 (fun CT K hC hK => ?_)
    repeat' first
      | (with_reducible refine And.intro ?_ ?_)
      | ((with_reducible intro h9); first | exact absurd h9 (by decide) | (replace h9 := nle f1 (by omega) (by omega) h9) | (replace h9 := yle f1 (by omega) (by omega) h9) | skip)
      | (with_reducible exact zn_in (by omega) (by decide))
      | (with_reducible exact z01) | (with_reducible exact z11) | (with_reducible exact zb01 _)
      | (with_reducible exact zn_inb (by omega) (by decide))
      | (with_reducible exact zn_ina (by omega) (by decide))
      | (with_reducible exact zn_inc (by omega) (by decide))
      | ((conv => whnf); first | (with_reducible refine And.intro ?_ ?_) | ((with_reducible intro h9); first | exact absurd h9 (by decide) | (replace h9 := nle f1 (by omega) (by omega) h9) | (replace h9 := yle f1 (by omega) (by omega) h9) | skip) | (with_reducible refine hK _ _ _ _ (sm_un ?_)))
    · obtain rfl : i = S 0 0 := by omega
      exact hQ G1 hx hpa
    · exact ⟨⟨inner ‹_› 0 (Nat.zero_le _)⟩⟩
  have lo2 : ∀ v, v ≤ S 0 1 → ∀ G1, eqx [39, 40] G G1 → pA G1 → (∀ j, j < S 0 0 → G1 39 j = nI (gw S s j)) → (∀ u, u < v → ∀ j, j < S 0 0 → G1 40 (6 * u + j) = nI (ps S (gw S s) u (j + 1))) → sm_Wk 3 131 Q none 48 [some (.ref 30), some (.int (nI v)), none, none, none] [] (hp G1 (seedL L (sd S s (S 0 0)))) := by
    refine up _ (fun v hv ih G1 hx hpa hb hpt => ?_)
    have hD1 := mD_x hx rfl hD
    have f2 := mD_v hD1
    refine sm_body [48, 71] 80 sm_k131 (fun CT K hC hK => ?_)
    repeat' first
      | (with_reducible refine And.intro ?_ ?_)
      | ((with_reducible intro h9); first | exact absurd h9 (by decide) | (replace h9 := nle f2 (by omega) (by omega) h9) | (replace h9 := yle f2 (by omega) (by omega) h9) | skip)
      | (with_reducible exact zn_in (by omega) (by decide))
      | (with_reducible exact z01) | (with_reducible exact z11) | (with_reducible exact zb01 _)
      | (with_reducible exact zn_inb (by omega) (by decide))
      | (with_reducible exact zn_ina (by omega) (by decide))
      | (with_reducible exact zn_inc (by omega) (by decide))
      | ((conv => whnf); first | (with_reducible refine And.intro ?_ ?_) | ((with_reducible intro h9); first | exact absurd h9 (by decide) | (replace h9 := nle f2 (by omega) (by omega) h9) | (replace h9 := yle f2 (by omega) (by omega) h9) | skip) | (with_reducible refine hK _ _ _ _ (sm_un ?_)) | (with_reducible refine s_layVane (hC.mono (by omega)) hD1 hR (fun j hj => gw_lt hR hj) hb ‹_› (fun G2 hx2 h3 h4 => ?_)))
    · obtain rfl : v = S 0 1 := by omega
      exact ⟨⟨lo3 G1 hx hpa hb hpt 0 (Nat.zero_le _) none none⟩⟩
    · have hpa2 : pA G2 := by
        intro k hk
        by_cases hc : k / 6 = v ∧ k % 6 < S 0 0
        · have e := h3 (k % 6) hc.2
          rw [show 6 * v + k % 6 = k by omega] at e
          exact ⟨_, hpl v h9 _ (by omega), e⟩
        · rw [h4 k hc]
          exact hpa k hk
      simp only [nI_add]; exact ⟨⟨ih h9 G2 (eqx_trans hx (eqx_sub rfl hx2)) hpa2 (fun j hj => by rw [hx2 39 rfl]; exact hb j hj) (fun u hu j hj => if e : u = v then (by subst e; exact h3 j hj) else (by rw [h4 _ (by omega)]; exact hpt u (by omega) j hj))⟩⟩
  have lo : ∀ i, i ≤ S 0 0 → ∀ G1, eqx [39, 40] G G1 → G1 40 = G 40 → (∀ j, j < i → G1 39 j = nI (gw S s j)) → sm_Wk 3 131 Q none 2 [some (.ref 30), some (.int (nI i)), none, none, none] [] (hp G1 (seedL L (sd S s i))) := by
    refine up _ (fun i hi ih G1 hx h40 hb => ?_)
    have hD1 := mD_x hx rfl hD
    obtain ⟨f1, f2, f3, f4⟩ := id hD1
    refine sm_body [2, 48] 80 sm_k131 (fun CT K hC hK => ?_)
    repeat' first
      | (with_reducible refine And.intro ?_ ?_)
      | ((with_reducible intro h9); first | exact absurd h9 (by decide) | (replace h9 := nle f1 (by omega) (by omega) h9) | (replace h9 := yle f1 (by omega) (by omega) h9) | ((rw [zn_clI (show i < 2 ^ 31 by omega), f3 i ‹_›, wI_m (r3 i ‹_›)] at h9)) | skip)
      | (with_reducible exact zn_in (by omega) (by decide))
      | (with_reducible exact z01) | (with_reducible exact z11) | (with_reducible exact zb01 _)
      | (with_reducible exact zn_inb (by omega) (by decide))
      | (with_reducible exact zn_ina (by omega) (by decide))
      | (with_reducible exact zn_inc (by omega) (by decide))
      | ((conv => whnf); first | (with_reducible refine And.intro ?_ ?_) | ((with_reducible intro h9); first | exact absurd h9 (by decide) | (replace h9 := nle f1 (by omega) (by omega) h9) | (replace h9 := yle f1 (by omega) (by omega) h9) | ((rw [zn_clI (show i < 2 ^ 31 by omega), f3 i ‹_›, wI_m (r3 i ‹_›)] at h9)) | skip) | (with_reducible refine hK _ _ _ _ (sm_un ?_)) | (with_reducible refine s_draw (s := sd S s i) (hC.mono (by omega)) seedL_21 ?_))
    · obtain rfl : i = S 0 0 := by omega
      exact ⟨⟨lo2 0 (Nat.zero_le _) G1 hx (by unfold pA; rw [h40]; exact hp0) hb (fun u hu => absurd hu (Nat.not_lt_zero _))⟩⟩
    · have h4 := r3 i ‹_›
      have e := ih ‹_› (su G1 39 (su (G1 39) i (nI (gw S s i)))) (eqx_su 39 _ rfl hx) h40 (fun j hj => by
        rw [su_eq, su_if]
        split
        · rename_i e
          rw [e]
        · exact hb j (by omega))
      rw [sd, gw, beq_f h9] at e
      simp only [nI_add, zn_clI (show i < 2 ^ 31 by omega), hp_0, hp_1, hp_2, hp_3, hp_4, hp_5, hp_6, hp_7, hp_8, hp_9, hp_10, hp_11, hp_12, hp_13, hp_14, hp_15, hp_16, hp_17, hp_18, hp_19, hp_20, hp_22, hp_23, hp_24, hp_25, hp_26, hp_27, hp_28, hp_29, hp_30, hp_31, hp_32, hp_33, hp_34, hp_35, hp_36, hp_37, hp_38, hp_39, hp_40, hp_41, hp_42, hp_43, hp_44, hp_45, hp_46, hp_47, hp_48, hp_49, hf0_5, hf0_6, hf0_7, hf1_1, hf3_0, hf3_2, hf3_6, hf10_0, hf10_2, hf10_6, hf17_3, hf17_4, hf20_3, hf20_4, hf30_0, hf30_1, hf30_3, hf30_7, hf30_11, hf30_12, hf30_20, hf30_22, hf30_23, hf30_24, hf30_25, hf30_21, hf30_31, upd_su, updL_su, f3 i ‹_›, wI_t (show S 1 i < 4 by omega)]
      exact ⟨⟨e⟩⟩
    · have e := ih ‹_› (su G1 39 (su (G1 39) i (nI (gw S s i)))) (eqx_su 39 _ rfl hx) h40 (fun j hj => by
        rw [su_eq, su_if]
        split
        · rename_i e
          rw [e]
        · exact hb j (by omega))
      rw [sd, gw, beq_t h9] at e
      simp only [nI_add, zn_clI (show i < 2 ^ 31 by omega), hp_0, hp_1, hp_2, hp_3, hp_4, hp_5, hp_6, hp_7, hp_8, hp_9, hp_10, hp_11, hp_12, hp_13, hp_14, hp_15, hp_16, hp_17, hp_18, hp_19, hp_20, hp_22, hp_23, hp_24, hp_25, hp_26, hp_27, hp_28, hp_29, hp_30, hp_31, hp_32, hp_33, hp_34, hp_35, hp_36, hp_37, hp_38, hp_39, hp_40, hp_41, hp_42, hp_43, hp_44, hp_45, hp_46, hp_47, hp_48, hp_49, hf0_5, hf0_6, hf0_7, hf1_1, hf3_0, hf3_2, hf3_6, hf10_0, hf10_2, hf10_6, hf17_3, hf17_4, hf20_3, hf20_4, hf30_0, hf30_1, hf30_3, hf30_7, hf30_11, hf30_12, hf30_20, hf30_22, hf30_23, hf30_24, hf30_25, hf30_21, hf30_31, upd_su, updL_su, seedL_2]
      exact ⟨⟨e⟩⟩
  refine sm_body [2] 80 sm_k131 (fun CT K hC hK => ?_)
  repeat' first
    | (with_reducible refine And.intro ?_ ?_)
    | ((with_reducible intro h9); first | exact absurd h9 (by decide) | skip)
    | (with_reducible exact zn_in (by omega) (by decide))
    | (with_reducible exact z01) | (with_reducible exact z11) | (with_reducible exact zb01 _)
    | (with_reducible exact zn_inb (by omega) (by decide))
    | (with_reducible exact zn_ina (by omega) (by decide))
    | (with_reducible exact zn_inc (by omega) (by decide))
    | ((conv => whnf); first | (with_reducible refine And.intro ?_ ?_) | ((with_reducible intro h9); first | exact absurd h9 (by decide) | skip) | (with_reducible refine hK _ _ _ _ (sm_un ?_)))
  have e := lo 0 (Nat.zero_le _) G eqx_rfl rfl (fun j hj => absurd hj (Nat.not_lt_zero _))
  rw [show sd S s 0 = s from rfl, seedL_self hL] at e
  exact ⟨⟨e⟩⟩
set_option maxRecDepth 100000 in
set_option maxHeartbeats 4000000 in
theorem s_gustsNow (hC : sm_C 5 CT) (hD : mD S G) (hR : dR S) (hp0 : pA G) {s d q : Nat} (hs : s < 2147483648) (hd : d ≤ 40) (hq : q < 2)
    (hQ : ∀ G' L', eqx [39, 40] G G' → pA G' → Q (some (.int (nI (if q = 0 then hits S s d else sdd S s d)))) (hp G' L')) : CT 132 [.ref 30, .int (nI d), .int (nI s), .int (nI q)] (hp G L) Q := by
  obtain ⟨r1, r2, r3, r4⟩ := id hR
  refine sm_meth hC [some (.ref 30), some (.int (nI d)), some (.int (nI s)), some (.int (nI q)), none, none] rfl rfl rfl ?_
  have lo : ∀ k, k ≤ d → ∀ G1 L1, eqx [39, 40] G G1 → pA G1 → L1 30 21 = lN (sdd S s k) → sm_Wk 4 132 Q none 12 [some (.ref 30), some (.int (nI d)), some (.int (nI s)), some (.int (nI q)), some (.int (nI (hits S s k))), some (.int (nI k))] [] (hp G1 L1) := by
    refine up _ (fun k hk ih G1 L1 hx hpa hl => ?_)
    have hsk := sdd_lt (S := S) hs k
    have hD1 := mD_x hx rfl hD
    refine sm_body [12] 80 sm_k132 (fun CT K hC hK => ?_)
    repeat' first
      | (with_reducible refine And.intro ?_ ?_)
      | ((with_reducible intro h9); first | exact absurd h9 (by decide) | (replace h9 := zle (by omega) (by omega) h9) | (replace h9 := znle (by omega) (by omega) h9) | skip)
      | (with_reducible exact zn_in (by omega) (by decide))
      | (with_reducible exact z01) | (with_reducible exact z11) | (with_reducible exact zb01 _)
      | (with_reducible exact zn_inb (by omega) (by decide))
      | (with_reducible exact zn_ina (by omega) (by decide))
      | (with_reducible exact zn_inc (by omega) (by decide))
      | ((conv => whnf); first | (with_reducible refine And.intro ?_ ?_) | ((with_reducible intro h9); first | exact absurd h9 (by decide) | (replace h9 := zle (by omega) (by omega) h9) | (replace h9 := znle (by omega) (by omega) h9) | skip) | (with_reducible refine hK _ _ _ _ (sm_un ?_)) | (with_reducible refine s_goDay (hC.mono (by omega)) hD1 hR hpa hsk hl (fun G2 hx2 hpa2 => ?_)))
    · obtain rfl : k = d := by omega
      refine zq ?_ (hQ G1 L1 hx hpa)
      rw [if_f (zneq ‹¬ nI q = nI 0›), hl, lN_i]
    · obtain rfl : k = d := by omega
      refine zq ?_ (hQ G1 L1 hx hpa)
      rw [if_t (zeq (by omega) (by omega) ‹nI q = nI 0›)]
    · simp only [nI_add]; exact ⟨⟨ih ‹_› G2 _ (eqx_trans hx hx2) hpa2 rfl⟩⟩
  refine sm_body [12] 80 sm_k132 (fun CT K hC hK => ?_)
  repeat' first
    | (with_reducible refine And.intro ?_ ?_)
    | ((with_reducible intro h9); first | exact absurd h9 (by decide) | skip)
    | (with_reducible exact zn_in (by omega) (by decide))
    | (with_reducible exact z01) | (with_reducible exact z11) | (with_reducible exact zb01 _)
    | (with_reducible exact zn_inb (by omega) (by decide))
    | (with_reducible exact zn_ina (by omega) (by decide))
    | (with_reducible exact zn_inc (by omega) (by decide))
    | ((conv => whnf); first | (with_reducible refine And.intro ?_ ?_) | ((with_reducible intro h9); first | exact absurd h9 (by decide) | skip) | (with_reducible refine hK _ _ _ _ (sm_un ?_)))
  simp only [hp_0, hp_1, hp_2, hp_3, hp_4, hp_5, hp_6, hp_7, hp_8, hp_9, hp_10, hp_11, hp_12, hp_13, hp_14, hp_15, hp_16, hp_17, hp_18, hp_19, hp_20, hp_22, hp_23, hp_24, hp_25, hp_26, hp_27, hp_28, hp_29, hp_30, hp_31, hp_32, hp_33, hp_34, hp_35, hp_36, hp_37, hp_38, hp_39, hp_40, hp_41, hp_42, hp_43, hp_44, hp_45, hp_46, hp_47, hp_48, hp_49, hf0_5, hf0_6, hf0_7, hf1_1, hf3_0, hf3_2, hf3_6, hf10_0, hf10_2, hf10_6, hf17_3, hf17_4, hf20_3, hf20_4, hf30_0, hf30_1, hf30_3, hf30_7, hf30_11, hf30_12, hf30_20, hf30_22, hf30_23, hf30_24, hf30_25, hf30_21, hf30_31, upd_su, updL_su, su_self, nI_l (show s < 2 ^ 31 by omega)]
  exact ⟨⟨lo 0 (Nat.zero_le _) G (seedL L s) eqx_rfl hp0 rfl⟩⟩
set_option maxRecDepth 100000 in
set_option maxHeartbeats 4000000 in
theorem g_gusts (hC : sm_C 6 CT) (hR : RS c S) (hI : Im c S G) {x y z : Int32} (hQ : ∀ G' L', eqx mdlP G G' → Im c S G' → Q (some (.int (A_gusts S x y z))) (hp G' L')) : CT 133 [.ref 30, .int x, .int y, .int z] (hp G L) Q := by
  obtain ⟨hdR, hnR, -⟩ := id hR
  obtain ⟨r1, r2, r3, r4⟩ := id hdR
  obtain ⟨i1, i2, i3, i4, i5, i6, i7⟩ := id hI
  have e1 := i1.1
  refine sm_meth hC [some (.ref 30), some (.int x), some (.int y), some (.int z)] rfl rfl rfl ?_
  unfold A_gusts at hQ
  refine sm_body [] 80 sm_k133 (fun CT K hC hK => ?_)
  repeat' first
    | (with_reducible refine And.intro ?_ ?_)
    | ((with_reducible intro h9); first | exact absurd h9 (by decide) | (replace h9 := sb_f h9) | ((have h8 := inb_ex (x := z) (sb_t h9); obtain ⟨q, hq, rfl⟩ := h8)) | ((rw [e1] at h9; replace h9 := zneq h9)) | ((rw [e1] at h9; replace h9 := zeq (by omega) (by omega) h9)) | skip)
    | (with_reducible exact zn_in (by omega) (by decide))
    | (with_reducible exact z01) | (with_reducible exact z11) | (with_reducible exact zb01 _)
    | (with_reducible exact zn_inb (by omega) (by decide))
    | (with_reducible exact zn_ina (by omega) (by decide))
    | (with_reducible exact zn_inc (by omega) (by decide))
    | ((conv => whnf); first | (with_reducible refine And.intro ?_ ?_) | ((with_reducible intro h9); first | exact absurd h9 (by decide) | (replace h9 := sb_f h9) | ((have h8 := inb_ex (x := z) (sb_t h9); obtain ⟨q, hq, rfl⟩ := h8)) | ((rw [e1] at h9; replace h9 := zneq h9)) | ((rw [e1] at h9; replace h9 := zeq (by omega) (by omega) h9)) | skip) | (with_reducible refine hK _ _ _ _ (sm_un ?_)) | (with_reducible refine s_within (hC.mono (by omega)) (fun hl hr => ?_) (fun hn => ?_)) | (with_reducible refine b_withinM (n := 2) (hC.mono (by omega)) (by decide) rfl ?_))
  · rw [if_f (fun o => absurd h9 (Int32.not_lt.mpr o.2.2.1))] at hQ
    exact hQ G L eqx_rfl hI
  · have o1 : nI 1 ≤ x := ‹_›
    have o2 : x ≤ nI 40 := ‹_›
    have o3 : nI 0 ≤ y := Int32.not_lt.mp ‹¬ y < nI 0›
    have o5 : nI 0 ≤ z := ‹_›
    have o6 : z ≤ nI 1 := ‹_›
    have o4 : inb z 2 = true := o_in (n := 1) (by decide) (Int32.not_lt.mpr o5) o6
    rw [if_t ⟨o1, o2, o3, o4⟩, if_f h9] at hQ
    obtain ⟨q, hq, rfl⟩ := inb_ex o4
    obtain ⟨dd, hd, ex⟩ := wi_t (x := x) (y := nI 40) (n := 41) (by decide) rfl (Int32.le_trans (by decide) o1) o2
    subst ex
    obtain ⟨s, hs, ey⟩ := nI_of (x := y) (Int32.not_lt.mpr o3)
    subst ey
    have hs : s < 2147483648 := hs
    simp only [ci hq (show 2 ≤ 100 by decide), zn_clI (show dd < 2 ^ 31 by omega), zn_clI (show s < 2 ^ 31 by omega)] at hQ
    repeat' first
      | (with_reducible refine And.intro ?_ ?_)
      | ((with_reducible intro h9); first | exact absurd h9 (by decide) | skip)
      | (with_reducible exact zn_in (by omega) (by decide))
      | (with_reducible exact z01) | (with_reducible exact z11) | (with_reducible exact zb01 _)
      | (with_reducible exact zn_inb (by omega) (by decide))
      | (with_reducible exact zn_ina (by omega) (by decide))
      | (with_reducible exact zn_inc (by omega) (by decide))
      | ((conv => whnf); first | (with_reducible refine And.intro ?_ ?_) | ((with_reducible intro h9); first | exact absurd h9 (by decide) | skip) | (with_reducible refine hK _ _ _ _ (sm_un ?_)) | (with_reducible refine s_gustsNow (hC.mono (by omega)) i1 hdR i7 hs (by omega) hq (fun G' L' hx hp => ?_)))
    exact hQ G' L' (eqx_sub rfl hx) (Im_39 (eqx_sub rfl hx) hp hI)
  · have o1 : nI 1 ≤ x := ‹_›
    have o2 : x ≤ nI 40 := ‹_›
    have o3 : nI 0 ≤ y := Int32.not_lt.mp ‹¬ y < nI 0›
    have o5 : nI 0 ≤ z := ‹_›
    have o6 : z ≤ nI 1 := ‹_›
    have o4 : inb z 2 = true := o_in (n := 1) (by decide) (Int32.not_lt.mpr o5) o6
    rw [if_t ⟨o1, o2, o3, o4⟩, if_t h9] at hQ
    exact hQ G L eqx_rfl hI
  · have hn0 : ¬ (nI 0 ≤ z ∧ z ≤ nI 1) := ‹_›
    rw [if_f (fun o => by
      obtain ⟨q, hq, e⟩ := inb_ex o.2.2.2
      rw [e] at hn0
      exact hn0 ⟨nI_le (Nat.zero_le q) (by omega), nI_le (by omega) (by decide)⟩)] at hQ
    exact hQ G L eqx_rfl hI
  · have hn0 : ¬ (nI 1 ≤ x ∧ x ≤ nI 40) := ‹_›
    rw [if_f (fun o => hn0 ⟨o.1, o.2.1⟩)] at hQ
    exact hQ G L eqx_rfl hI
end GUSTM
end
section
/-! digest: both sides. -/
def mixI (h : Int64) (x : Int32) : Int64 := lN 31 * h + x.toInt64
def wht (i : Nat) : Nat := if i < 4 then i else i + 6
def fA (S : Nat → Nat → Nat) (v : Nat) (h : Int64) : Nat → Int64
  | 0 => h
  | n + 1 => mixI (fA S v h n) (aboutV S v (nI (wht n)))
def fP (S : Nat → Nat → Nat) (v : Nat) (h : Int64) : Nat → Int64
  | 0 => h
  | n + 1 => mixI (fP S v h n) (nI (bq 4 (aPt S v n)))
def dV (S : Nat → Nat → Nat) (v : Nat) (h : Int64) : Int64 := fP S v (fA S v h 8) (S 0 0)
def dVs (S : Nat → Nat → Nat) : Nat → Int64
  | 0 => lN 823
  | v + 1 => dV S v (dVs S v)
def dB (S : Nat → Nat → Nat) (h : Int64) : Nat → Int64
  | 0 => h
  | n + 1 => mixI (dB S h n) (nI (bq 4 (aBl S n)))
def dF (S : Nat → Nat → Nat) (h : Int64) : Int64 := if S 0 0 = 0 then h else mixI h (nI (aAll S))
def dP (S : Nat → Nat → Nat) (h : Int64) : Nat → Int64
  | 0 => h
  | n + 1 => mixI (dP S h n) (nI (S 5 n))
def dC (S : Nat → Nat → Nat) (h : Int64) : Nat → Int64
  | 0 => h
  | n + 1 => mixI (dC S h n) (A_count S (nI n))
def A_digest (S : Nat → Nat → Nat) : Int64 := dC S (dP S (dF S (dB S (dVs S (S 0 1)) (S 0 0))) (S 0 3)) 7
theorem aboutB_w {i : Nat} (h : i < 8) : aboutB (nI (wht i)) = true := by
  have : i = 0 ∨ i = 1 ∨ i = 2 ∨ i = 3 ∨ i = 4 ∨ i = 5 ∨ i = 6 ∨ i = 7 := by omega
  rcases this with rfl | rfl | rfl | rfl | rfl | rfl | rfl | rfl <;> decide
section DIG
variable {CT : sm_CT} {G : Nat → Nat → Int32} {L : Nat → Nat → Int64} {Q : sm_Q} {S : Nat → Nat → Nat} {c : Nat} {h : sm_H}
theorem about_w {v i : Nat} (hv : v < S 0 1) (h4 : S 0 1 ≤ 4) (h : i < 8) : A_about S (nI v) (nI (wht i)) = aboutV S v (nI (wht i)) := by
  unfold A_about
  rw [i0 hv (by omega), aboutB_w h, ci hv (by omega)]
  rfl
set_option maxRecDepth 100000 in
set_option maxHeartbeats 4000000 in
theorem s_digestOfVane (hC : sm_C 15 CT) (hR : RS c S) (hI : Ic S G) {v : Nat} (hv : v < S 0 1) {a : Int64} (hQ : ∀ G', eqx clsP G G' → Ic S G' → Q (some (.long (dV S v a))) (hp G' L)) : CT 65 [.ref 0, .long a, .int (nI v)] (hp G L) Q := by
  obtain ⟨hdR, hnR, -⟩ := id hR
  obtain ⟨r1, r2, r3, r4⟩ := id hdR
  refine sm_meth hC [some (.ref 0), some (.long a), none, some (.int (nI v)), none, none, none] rfl rfl rfl ?_
  have lo3 : ∀ i, i ≤ S 0 0 → ∀ G1, eqx clsP G G1 → Ic S G1 → sm_Wk 14 65 Q none 72 [some (.ref 0), some (.long a), none, some (.int (nI v)), some (.long (fP S v (fA S v a 8) i)), none, some (.int (nI i))] [] (hp G1 L) := by
    refine up _ (fun i hi ih G1 hx hI1 => ?_)
    have e1 := hI1.1.1
    refine sm_body [72] 80 sm_k65 (fun CT K hC hK => ?_)
    repeat' first
      | (with_reducible refine And.intro ?_ ?_)
      | ((with_reducible intro h9); first | exact absurd h9 (by decide) | (replace h9 := nle e1 (by omega) (by omega) h9) | (replace h9 := yle e1 (by omega) (by omega) h9) | skip)
      | (with_reducible exact zn_in (by omega) (by decide))
      | (with_reducible exact z01) | (with_reducible exact z11) | (with_reducible exact zb01 _)
      | (with_reducible exact zn_inb (by omega) (by decide))
      | (with_reducible exact zn_ina (by omega) (by decide))
      | (with_reducible exact zn_inc (by omega) (by decide))
      | ((conv => whnf); first | (with_reducible refine And.intro ?_ ?_) | ((with_reducible intro h9); first | exact absurd h9 (by decide) | (replace h9 := nle e1 (by omega) (by omega) h9) | (replace h9 := yle e1 (by omega) (by omega) h9) | skip) | (with_reducible refine hK _ _ _ _ (sm_un ?_)) | (with_reducible refine f_points (hC.mono (by omega)) hR hI1 (fun G2 hx2 hI2 => ?_)))
    · obtain rfl : i = S 0 0 := by omega
      exact hQ G1 hx hI1
    · have e := ih ‹_› G2 (eqx_trans hx hx2) hI2
      have ep : A_points S (nI v) (nI i) = nI (bq 4 (aPt S v i)) := by
        unfold A_points
        rw [i0 hv (by omega), i0 ‹i < S 0 0› (by omega), ci hv (by omega), ci ‹i < S 0 0› (by omega)]
        rfl
      rw [fP, mixI, ← ep] at e
      simp only [nI_add]; exact ⟨⟨e⟩⟩
  have lo2 : ∀ i, i ≤ 4 → sm_Wk 14 65 Q none 39 [some (.ref 0), some (.long a), none, some (.int (nI v)), some (.long (fA S v a (4 + i))), none, some (.int (nI (10 + i)))] [] (hp G L) := by
    refine up _ (fun i hi ih => ?_)
    refine sm_body [39, 72] 80 sm_k65 (fun CT K hC hK => ?_)
    repeat' first
      | (with_reducible refine And.intro ?_ ?_)
      | ((with_reducible intro h9); first | exact absurd h9 (by decide) | (replace h9 := zlt (a := 13) (by omega) (by omega) h9) | (replace h9 := znl (a := 13) (by omega) (by omega) h9) | skip)
      | (with_reducible exact zn_in (by omega) (by decide))
      | (with_reducible exact z01) | (with_reducible exact z11) | (with_reducible exact zb01 _)
      | (with_reducible exact zn_inb (by omega) (by decide))
      | (with_reducible exact zn_ina (by omega) (by decide))
      | (with_reducible exact zn_inc (by omega) (by decide))
      | ((conv => whnf); first | (with_reducible refine And.intro ?_ ?_) | ((with_reducible intro h9); first | exact absurd h9 (by decide) | (replace h9 := zlt (a := 13) (by omega) (by omega) h9) | (replace h9 := znl (a := 13) (by omega) (by omega) h9) | skip) | (with_reducible refine hK _ _ _ _ (sm_un ?_)) | (with_reducible refine f_about (hC.mono (by omega)) hR hI ?_))
    · obtain rfl : i = 4 := by omega
      exact ⟨⟨lo3 0 (Nat.zero_le _) G eqx_rfl hI⟩⟩
    · have e := ih (by omega)
      have ea := about_w (S := S) (i := 4 + i) hv r2 (by omega)
      have ew : wht (4 + i) = 10 + i := by unfold wht; rw [if_f (by omega)]; omega
      rw [show 4 + (i + 1) = 4 + i + 1 by omega, fA, mixI, ← ea, ew, show 10 + (i + 1) = 10 + i + 1 by omega] at e
      simp only [nI_add]; exact ⟨⟨e⟩⟩
  have lo : ∀ i, i ≤ 4 → sm_Wk 14 65 Q none 6 [some (.ref 0), some (.long a), none, some (.int (nI v)), some (.long (fA S v a i)), none, some (.int (nI i))] [] (hp G L) := by
    refine up _ (fun i hi ih => ?_)
    refine sm_body [6, 39] 80 sm_k65 (fun CT K hC hK => ?_)
    repeat' first
      | (with_reducible refine And.intro ?_ ?_)
      | ((with_reducible intro h9); first | exact absurd h9 (by decide) | (replace h9 := zlt (a := 3) (by omega) (by omega) h9) | (replace h9 := znl (a := 3) (by omega) (by omega) h9) | skip)
      | (with_reducible exact zn_in (by omega) (by decide))
      | (with_reducible exact z01) | (with_reducible exact z11) | (with_reducible exact zb01 _)
      | (with_reducible exact zn_inb (by omega) (by decide))
      | (with_reducible exact zn_ina (by omega) (by decide))
      | (with_reducible exact zn_inc (by omega) (by decide))
      | ((conv => whnf); first | (with_reducible refine And.intro ?_ ?_) | ((with_reducible intro h9); first | exact absurd h9 (by decide) | (replace h9 := zlt (a := 3) (by omega) (by omega) h9) | (replace h9 := znl (a := 3) (by omega) (by omega) h9) | skip) | (with_reducible refine hK _ _ _ _ (sm_un ?_)) | (with_reducible refine f_about (hC.mono (by omega)) hR hI ?_))
    · obtain rfl : i = 4 := by omega
      exact ⟨⟨lo2 0 (Nat.zero_le _)⟩⟩
    · have e := ih (by omega)
      have ea := about_w (S := S) (i := i) hv r2 (by omega)
      have ew : wht i = i := by unfold wht; rw [if_t (by omega)]
      rw [fA, mixI, ← ea, ew] at e
      simp only [nI_add]; exact ⟨⟨e⟩⟩
  refine sm_body [6] 80 sm_k65 (fun CT K hC hK => ?_)
  repeat' first
    | (with_reducible refine And.intro ?_ ?_)
    | ((with_reducible intro h9); first | exact absurd h9 (by decide) | skip)
    | (with_reducible exact zn_in (by omega) (by decide))
    | (with_reducible exact z01) | (with_reducible exact z11) | (with_reducible exact zb01 _)
    | (with_reducible exact zn_inb (by omega) (by decide))
    | (with_reducible exact zn_ina (by omega) (by decide))
    | (with_reducible exact zn_inc (by omega) (by decide))
    | ((conv => whnf); first | (with_reducible refine And.intro ?_ ?_) | ((with_reducible intro h9); first | exact absurd h9 (by decide) | skip) | (with_reducible refine hK _ _ _ _ (sm_un ?_)))
  exact ⟨⟨lo 0 (Nat.zero_le _)⟩⟩
set_option maxRecDepth 100000 in
set_option maxHeartbeats 4000000 in
theorem f_digest (hC : sm_C 16 CT) (hR : RS c S) (hI : Ic S G) (hQ : ∀ G', eqx clsP G G' → Ic S G' → Q (some (.long (A_digest S))) (hp G' L)) : CT 64 [.ref 0] (hp G L) Q := by
  obtain ⟨hdR, hnR, -⟩ := id hR
  obtain ⟨r1, r2, r3, r4⟩ := id hdR
  have r8 := hR.2.2.1
  refine sm_meth hC [some (.ref 0), none, none, none] rfl rfl rfl ?_
  have lo4 : ∀ i, i ≤ 7 → ∀ G1, eqx clsP G G1 → Ic S G1 → sm_Wk 15 64 Q none 122 [some (.ref 0), some (.long (dC S (dP S (dF S (dB S (dVs S (S 0 1)) (S 0 0))) (S 0 3)) i)), none, some (.int (nI i))] [] (hp G1 L) := by
    refine up _ (fun i hi ih G1 hx hI1 => ?_)
    refine sm_body [122] 80 sm_k64 (fun CT K hC hK => ?_)
    repeat' first
      | (with_reducible refine And.intro ?_ ?_)
      | ((with_reducible intro h9); first | exact absurd h9 (by decide) | (replace h9 := zlt (a := 6) (by omega) (by omega) h9) | (replace h9 := znl (a := 6) (by omega) (by omega) h9) | skip)
      | (with_reducible exact zn_in (by omega) (by decide))
      | (with_reducible exact z01) | (with_reducible exact z11) | (with_reducible exact zb01 _)
      | (with_reducible exact zn_inb (by omega) (by decide))
      | (with_reducible exact zn_ina (by omega) (by decide))
      | (with_reducible exact zn_inc (by omega) (by decide))
      | ((conv => whnf); first | (with_reducible refine And.intro ?_ ?_) | ((with_reducible intro h9); first | exact absurd h9 (by decide) | (replace h9 := zlt (a := 6) (by omega) (by omega) h9) | (replace h9 := znl (a := 6) (by omega) (by omega) h9) | skip) | (with_reducible refine hK _ _ _ _ (sm_un ?_)) | (with_reducible refine f_count (hC.mono (by omega)) hR hI1 ?_))
    · obtain rfl : i = 7 := by omega
      exact hQ G1 hx hI1
    · have e := ih (by omega) G1 hx hI1
      rw [dC, mixI] at e
      simp only [nI_add]; exact ⟨⟨e⟩⟩
  have lo3 : ∀ i, i ≤ S 0 3 → ∀ G1, eqx clsP G G1 → Ic S G1 → sm_Wk 15 64 Q none 86 [some (.ref 0), some (.long (dP S (dF S (dB S (dVs S (S 0 1)) (S 0 0))) i)), none, some (.int (nI i))] [] (hp G1 L) := by
    refine up _ (fun i hi ih G1 hx hI1 => ?_)
    have e1 := hI1.2.1.1
    have e2 := hI1.2.1.2
    refine sm_body [86, 122] 80 sm_k64 (fun CT K hC hK => ?_)
    repeat' first
      | (with_reducible refine And.intro ?_ ?_)
      | ((with_reducible intro h9); first | exact absurd h9 (by decide) | (replace h9 := nle e1 (by omega) (by omega) h9) | (replace h9 := yle e1 (by omega) (by omega) h9) | skip)
      | (with_reducible exact zn_in (by omega) (by decide))
      | (with_reducible exact z01) | (with_reducible exact z11) | (with_reducible exact zb01 _)
      | (with_reducible exact zn_inb (by omega) (by decide))
      | (with_reducible exact zn_ina (by omega) (by decide))
      | (with_reducible exact zn_inc (by omega) (by decide))
      | ((conv => whnf); first | (with_reducible refine And.intro ?_ ?_) | ((with_reducible intro h9); first | exact absurd h9 (by decide) | (replace h9 := nle e1 (by omega) (by omega) h9) | (replace h9 := yle e1 (by omega) (by omega) h9) | skip) | (with_reducible refine hK _ _ _ _ (sm_un ?_)))
    · obtain rfl : i = S 0 3 := by omega
      exact ⟨⟨lo4 0 (Nat.zero_le _) G1 hx hI1⟩⟩
    · have e := ih ‹_› G1 hx hI1
      rw [dP, mixI, ← e2 i ‹_›] at e
      simp only [nI_add, zn_clI (show i < 2 ^ 31 by omega)]
      exact ⟨⟨e⟩⟩
  have mid : ∀ G1, eqx clsP G G1 → Ic S G1 → sm_Wk 15 64 Q none 62 [some (.ref 0), some (.long (dB S (dVs S (S 0 1)) (S 0 0))), none, some (.int (nI (S 0 0)))] [] (hp G1 L) := by
    intro G1 hx hI1
    have e1 := hI1.1.1
    refine sm_body [86] 80 sm_k64 (fun CT K hC hK => ?_)
    repeat' first
      | (with_reducible refine And.intro ?_ ?_)
      | ((with_reducible intro h9); first | exact absurd h9 (by decide) | ((rw [e1] at h9; replace h9 := zle (b := 0) (by omega) (by omega) h9)) | ((rw [e1] at h9; replace h9 := znle (b := 0) (by omega) (by omega) h9)) | skip)
      | (with_reducible exact zn_in (by omega) (by decide))
      | (with_reducible exact z01) | (with_reducible exact z11) | (with_reducible exact zb01 _)
      | (with_reducible exact zn_inb (by omega) (by decide))
      | (with_reducible exact zn_ina (by omega) (by decide))
      | (with_reducible exact zn_inc (by omega) (by decide))
      | ((conv => whnf); first | (with_reducible refine And.intro ?_ ?_) | ((with_reducible intro h9); first | exact absurd h9 (by decide) | ((rw [e1] at h9; replace h9 := zle (b := 0) (by omega) (by omega) h9)) | ((rw [e1] at h9; replace h9 := znle (b := 0) (by omega) (by omega) h9)) | skip) | (with_reducible refine hK _ _ _ _ (sm_un ?_)) | (with_reducible refine f_fitting (hC.mono (by omega)) hR hI1 (fun G2 hx2 hI2 => ?_)))
    · have e := lo3 0 (Nat.zero_le _) G1 hx hI1
      rw [show dP S (dF S (dB S (dVs S (S 0 1)) (S 0 0))) 0 = dF S (dB S (dVs S (S 0 1)) (S 0 0)) from rfl, dF, if_t (show S 0 0 = 0 by omega)] at e
      exact ⟨⟨e⟩⟩
    · have e := lo3 0 (Nat.zero_le _) G2 (eqx_trans hx hx2) hI2
      have ef : A_fitting S = nI (aAll S) := by
        unfold A_fitting
        rw [if_f (show ¬ S 0 0 = 0 by omega)]
      rw [show dP S (dF S (dB S (dVs S (S 0 1)) (S 0 0))) 0 = dF S (dB S (dVs S (S 0 1)) (S 0 0)) from rfl, dF, if_f (show ¬ S 0 0 = 0 by omega), mixI, ← ef] at e
      exact ⟨⟨e⟩⟩
  have lo2 : ∀ i, i ≤ S 0 0 → ∀ G1, eqx clsP G G1 → Ic S G1 → sm_Wk 15 64 Q none 32 [some (.ref 0), some (.long (dB S (dVs S (S 0 1)) i)), none, some (.int (nI i))] [] (hp G1 L) := by
    refine up _ (fun i hi ih G1 hx hI1 => ?_)
    have e1 := hI1.1.1
    refine sm_body [32, 62] 80 sm_k64 (fun CT K hC hK => ?_)
    repeat' first
      | (with_reducible refine And.intro ?_ ?_)
      | ((with_reducible intro h9); first | exact absurd h9 (by decide) | (replace h9 := nle e1 (by omega) (by omega) h9) | (replace h9 := yle e1 (by omega) (by omega) h9) | skip)
      | (with_reducible exact zn_in (by omega) (by decide))
      | (with_reducible exact z01) | (with_reducible exact z11) | (with_reducible exact zb01 _)
      | (with_reducible exact zn_inb (by omega) (by decide))
      | (with_reducible exact zn_ina (by omega) (by decide))
      | (with_reducible exact zn_inc (by omega) (by decide))
      | ((conv => whnf); first | (with_reducible refine And.intro ?_ ?_) | ((with_reducible intro h9); first | exact absurd h9 (by decide) | (replace h9 := nle e1 (by omega) (by omega) h9) | (replace h9 := yle e1 (by omega) (by omega) h9) | skip) | (with_reducible refine hK _ _ _ _ (sm_un ?_)) | (with_reducible refine f_blows (hC.mono (by omega)) hR hI1 (fun G2 hx2 hI2 => ?_)))
    · obtain rfl : i = S 0 0 := by omega
      exact ⟨⟨mid G1 hx hI1⟩⟩
    · have e := ih ‹_› G2 (eqx_trans hx hx2) hI2
      have ep : A_blows S (nI i) = nI (bq 4 (aBl S i)) := by
        unfold A_blows
        rw [i0 ‹i < S 0 0› (by omega), ci ‹i < S 0 0› (by omega)]
        rfl
      rw [dB, mixI, ← ep] at e
      simp only [nI_add]; exact ⟨⟨e⟩⟩
  have lo : ∀ i, i ≤ S 0 1 → ∀ G1, eqx clsP G G1 → Ic S G1 → sm_Wk 15 64 Q none 6 [some (.ref 0), some (.long (dVs S i)), none, some (.int (nI i))] [] (hp G1 L) := by
    refine up _ (fun i hi ih G1 hx hI1 => ?_)
    have e1 := hI1.1.2.1
    refine sm_body [6, 32] 80 sm_k64 (fun CT K hC hK => ?_)
    repeat' first
      | (with_reducible refine And.intro ?_ ?_)
      | ((with_reducible intro h9); first | exact absurd h9 (by decide) | (replace h9 := nle e1 (by omega) (by omega) h9) | (replace h9 := yle e1 (by omega) (by omega) h9) | skip)
      | (with_reducible exact zn_in (by omega) (by decide))
      | (with_reducible exact z01) | (with_reducible exact z11) | (with_reducible exact zb01 _)
      | (with_reducible exact zn_inb (by omega) (by decide))
      | (with_reducible exact zn_ina (by omega) (by decide))
      | (with_reducible exact zn_inc (by omega) (by decide))
      | ((conv => whnf); first | (with_reducible refine And.intro ?_ ?_) | ((with_reducible intro h9); first | exact absurd h9 (by decide) | (replace h9 := nle e1 (by omega) (by omega) h9) | (replace h9 := yle e1 (by omega) (by omega) h9) | skip) | (with_reducible refine hK _ _ _ _ (sm_un ?_)) | (with_reducible refine s_digestOfVane (hC.mono (by omega)) hR hI1 ‹_› (fun G2 hx2 hI2 => ?_)))
    · obtain rfl : i = S 0 1 := by omega
      exact ⟨⟨lo2 0 (Nat.zero_le _) G1 hx hI1⟩⟩
    · simp only [nI_add]; exact ⟨⟨ih ‹_› G2 (eqx_trans hx hx2) hI2⟩⟩
  refine sm_body [6] 80 sm_k64 (fun CT K hC hK => ?_)
  repeat' first
    | (with_reducible refine And.intro ?_ ?_)
    | ((with_reducible intro h9); first | exact absurd h9 (by decide) | skip)
    | (with_reducible exact zn_in (by omega) (by decide))
    | (with_reducible exact z01) | (with_reducible exact z11) | (with_reducible exact zb01 _)
    | (with_reducible exact zn_inb (by omega) (by decide))
    | (with_reducible exact zn_ina (by omega) (by decide))
    | (with_reducible exact zn_inc (by omega) (by decide))
    | ((conv => whnf); first | (with_reducible refine And.intro ?_ ?_) | ((with_reducible intro h9); first | exact absurd h9 (by decide) | skip) | (with_reducible refine hK _ _ _ _ (sm_un ?_)))
  exact ⟨⟨lo 0 (Nat.zero_le _) G eqx_rfl hI⟩⟩
end DIG
end
section
/-! digest of the other one. -/
def wix (w : Nat) : Nat := if w ≤ 4 then w else if w ≤ 10 then 4 else w - 6
section DIGM
variable {CT : sm_CT} {G : Nat → Nat → Int32} {L : Nat → Nat → Int64} {Q : sm_Q} {S : Nat → Nat → Nat} {c : Nat} {h : sm_H}
set_option maxRecDepth 100000 in
set_option maxHeartbeats 4000000 in
theorem s_mix (hC : sm_C 1 CT) {x : Int64} {a : Int64} (hL : L 30 31 = a) (hQ : ∀ L', L' 30 31 = lN 31 * a + x → Q none (hp G L')) : CT 138 [.ref 30, .long x] (hp G L) Q := by
  refine sm_meth hC [some (.ref 30), some (.long x), none] rfl rfl rfl ?_
  refine sm_body [] 80 sm_k138 (fun CT K hC hK => ?_)
  repeat' first
    | (with_reducible refine And.intro ?_ ?_)
    | ((with_reducible intro h9); first | exact absurd h9 (by decide) | skip)
    | (with_reducible exact zn_in (by omega) (by decide))
    | (with_reducible exact z01) | (with_reducible exact z11) | (with_reducible exact zb01 _)
    | (with_reducible exact zn_inb (by omega) (by decide))
    | (with_reducible exact zn_ina (by omega) (by decide))
    | (with_reducible exact zn_inc (by omega) (by decide))
    | ((conv => whnf); first | (with_reducible refine And.intro ?_ ?_) | ((with_reducible intro h9); first | exact absurd h9 (by decide) | skip) | (with_reducible refine hK _ _ _ _ (sm_un ?_)))
  conv => whnf
  simp only [hp_0, hp_1, hp_2, hp_3, hp_4, hp_5, hp_6, hp_7, hp_8, hp_9, hp_10, hp_11, hp_12, hp_13, hp_14, hp_15, hp_16, hp_17, hp_18, hp_19, hp_20, hp_22, hp_23, hp_24, hp_25, hp_26, hp_27, hp_28, hp_29, hp_30, hp_31, hp_32, hp_33, hp_34, hp_35, hp_36, hp_37, hp_38, hp_39, hp_40, hp_41, hp_42, hp_43, hp_44, hp_45, hp_46, hp_47, hp_48, hp_49, hf0_5, hf0_6, hf0_7, hf1_1, hf3_0, hf3_2, hf3_6, hf10_0, hf10_2, hf10_6, hf17_3, hf17_4, hf20_3, hf20_4, hf30_0, hf30_1, hf30_3, hf30_7, hf30_11, hf30_12, hf30_20, hf30_22, hf30_23, hf30_24, hf30_25, hf30_21, hf30_31, upd_su, updL_su, su_self, hL]
  exact hQ _ rfl
set_option maxRecDepth 100000 in
set_option maxHeartbeats 4000000 in
theorem s_mixVane (hC : sm_C 8 CT) (hR : RS c S) (hI : Im c S G) {v : Nat} (hv : v < S 0 1) {a : Int64} (hL : L 30 31 = a) (hQ : ∀ G' L', eqx mdlP G G' → Im c S G' → L' 30 31 = dV S v a → Q none (hp G' L')) : CT 139 [.ref 30, .int (nI v)] (hp G L) Q := by
  obtain ⟨hdR, hnR, -⟩ := id hR
  obtain ⟨r1, r2, r3, r4⟩ := id hdR
  refine sm_meth hC [some (.ref 30), some (.int (nI v)), none] rfl rfl rfl ?_
  have lo2 : ∀ i, i ≤ S 0 0 → ∀ G1 L1, eqx mdlP G G1 → Im c S G1 → L1 30 31 = fP S v (fA S v a 8) i → sm_Wk 7 139 Q none 38 [some (.ref 30), some (.int (nI v)), some (.int (nI i))] [] (hp G1 L1) := by
    refine up _ (fun i hi ih G1 L1 hx hI1 hl => ?_)
    obtain ⟨i1, i2, i3, i4, i5, i6, i7⟩ := id hI1
    have e1 := i1.1
    refine sm_body [38] 80 sm_k139 (fun CT K hC hK => ?_)
    repeat' first
      | (with_reducible refine And.intro ?_ ?_)
      | ((with_reducible intro h9); first | exact absurd h9 (by decide) | (replace h9 := nle e1 (by omega) (by omega) h9) | (replace h9 := yle e1 (by omega) (by omega) h9) | skip)
      | (with_reducible exact zn_in (by omega) (by decide))
      | (with_reducible exact z01) | (with_reducible exact z11) | (with_reducible exact zb01 _)
      | (with_reducible exact zn_inb (by omega) (by decide))
      | (with_reducible exact zn_ina (by omega) (by decide))
      | (with_reducible exact zn_inc (by omega) (by decide))
      | ((conv => whnf); first | (with_reducible refine And.intro ?_ ?_) | ((with_reducible intro h9); first | exact absurd h9 (by decide) | (replace h9 := nle e1 (by omega) (by omega) h9) | (replace h9 := yle e1 (by omega) (by omega) h9) | skip) | (with_reducible refine hK _ _ _ _ (sm_un ?_)) | (with_reducible refine s_pointsNow (hC.mono (by omega)) i1 hdR i2 hnR hv ‹_› (fun G2 hx2 hp2 => ?_)) | (with_reducible refine s_mix (hC.mono (by omega)) hl (fun L2 hl2 => ?_)))
    · obtain rfl : i = S 0 0 := by omega
      exact hQ G1 L1 hx hI1 hl
    · simp only [nI_add]; exact ⟨⟨ih ‹_› G2 L2 (eqx_trans hx (eqx_sub rfl hx2)) (Im_39 (eqx_sub rfl hx2) (hp2 i7) hI1) hl2⟩⟩
  have lo : ∀ i, i ≤ 14 → ∀ L1, L1 30 31 = fA S v a (wix i) → sm_Wk 7 139 Q none 2 [some (.ref 30), some (.int (nI v)), some (.int (nI i))] [] (hp G L1) := by
    refine up _ (fun i hi ih L1 hl => ?_)
    refine sm_body [2, 38] 80 sm_k139 (fun CT K hC hK => ?_)
    have hw : i < 14 → (i < 4 ∨ 9 < i) → wix (i + 1) = wix i + 1 ∧ wht (wix i) = i ∧ wix i < 8 := by
      intro h1 h2
      have : i = 0 ∨ i = 1 ∨ i = 2 ∨ i = 3 ∨ i = 10 ∨ i = 11 ∨ i = 12 ∨ i = 13 := by omega
      rcases this with rfl | rfl | rfl | rfl | rfl | rfl | rfl | rfl <;> decide
    have hw2 : i < 14 → 4 ≤ i → i ≤ 9 → wix (i + 1) = wix i := by
      intro h1 h2 h3
      have : i = 4 ∨ i = 5 ∨ i = 6 ∨ i = 7 ∨ i = 8 ∨ i = 9 := by omega
      rcases this with rfl | rfl | rfl | rfl | rfl | rfl <;> decide
    repeat' first
      | (with_reducible refine And.intro ?_ ?_)
      | ((with_reducible intro h9); first | exact absurd h9 (by decide) | (replace h9 := zle (a := 14) (by omega) (by omega) h9) | (replace h9 := znle (a := 14) (by omega) (by omega) h9) | (replace h9 := zlt (b := 4) (by omega) (by omega) h9) | (replace h9 := znl (b := 4) (by omega) (by omega) h9) | (replace h9 := zle (b := 9) (by omega) (by omega) h9) | (replace h9 := znle (b := 9) (by omega) (by omega) h9) | skip)
      | (with_reducible exact zn_in (by omega) (by decide))
      | (with_reducible exact z01) | (with_reducible exact z11) | (with_reducible exact zb01 _)
      | (with_reducible exact zn_inb (by omega) (by decide))
      | (with_reducible exact zn_ina (by omega) (by decide))
      | (with_reducible exact zn_inc (by omega) (by decide))
      | ((conv => whnf); first | (with_reducible refine And.intro ?_ ?_) | ((with_reducible intro h9); first | exact absurd h9 (by decide) | (replace h9 := zle (a := 14) (by omega) (by omega) h9) | (replace h9 := znle (a := 14) (by omega) (by omega) h9) | (replace h9 := zlt (b := 4) (by omega) (by omega) h9) | (replace h9 := znl (b := 4) (by omega) (by omega) h9) | (replace h9 := zle (b := 9) (by omega) (by omega) h9) | (replace h9 := znle (b := 9) (by omega) (by omega) h9) | skip) | (with_reducible refine hK _ _ _ _ (sm_un ?_)) | (refine g_vaneNow (hC.mono (by omega)) hR hI hv (by have q := hw ‹_› (by omega); rw [← q.2.1]; exact aboutB_w q.2.2) ?_) | (with_reducible refine s_mix (hC.mono (by omega)) hl (fun L2 hl2 => ?_)))
    · obtain rfl : i = 14 := by omega
      exact ⟨⟨lo2 0 (Nat.zero_le _) G L1 eqx_rfl hI hl⟩⟩
    · have q := hw ‹_› (by omega)
      have e := ih ‹_› L2 (by rw [hl2, q.1, fA, mixI, q.2.1])
      simp only [nI_add]; exact ⟨⟨e⟩⟩
    · have q := hw2 ‹_› (by omega) (by omega)
      have e := ih ‹_› L1 (by rw [q]; exact hl)
      simp only [nI_add]; exact ⟨⟨e⟩⟩
    · have q := hw ‹_› (by omega)
      have e := ih ‹_› L2 (by rw [hl2, q.1, fA, mixI, q.2.1])
      simp only [nI_add]; exact ⟨⟨e⟩⟩
  refine sm_body [2] 80 sm_k139 (fun CT K hC hK => ?_)
  repeat' first
    | (with_reducible refine And.intro ?_ ?_)
    | ((with_reducible intro h9); first | exact absurd h9 (by decide) | skip)
    | (with_reducible exact zn_in (by omega) (by decide))
    | (with_reducible exact z01) | (with_reducible exact z11) | (with_reducible exact zb01 _)
    | (with_reducible exact zn_inb (by omega) (by decide))
    | (with_reducible exact zn_ina (by omega) (by decide))
    | (with_reducible exact zn_inc (by omega) (by decide))
    | ((conv => whnf); first | (with_reducible refine And.intro ?_ ?_) | ((with_reducible intro h9); first | exact absurd h9 (by decide) | skip) | (with_reducible refine hK _ _ _ _ (sm_un ?_)))
  exact ⟨⟨lo 0 (Nat.zero_le _) L hL⟩⟩
set_option maxRecDepth 100000 in
set_option maxHeartbeats 4000000 in
theorem g_digest (hC : sm_C 9 CT) (hR : RS c S) (hI : Im c S G) (hQ : ∀ G' L', eqx mdlP G G' → Im c S G' → Q (some (.long (A_digest S))) (hp G' L')) : CT 140 [.ref 30] (hp G L) Q := by
  obtain ⟨hdR, hnR, -⟩ := id hR
  obtain ⟨r1, r2, r3, r4⟩ := id hdR
  have r8 := hR.2.2.1
  refine sm_meth hC [some (.ref 30), none] rfl rfl rfl ?_
  have lo4 : ∀ i, i ≤ 7 → ∀ G1 L1, eqx mdlP G G1 → Im c S G1 → L1 30 31 = dC S (dP S (dF S (dB S (dVs S (S 0 1)) (S 0 0))) (S 0 3)) i → sm_Wk 8 140 Q none 99 [some (.ref 30), some (.int (nI i))] [] (hp G1 L1) := by
    refine up _ (fun i hi ih G1 L1 hx hI1 hl => ?_)
    refine sm_body [99] 80 sm_k140 (fun CT K hC hK => ?_)
    repeat' first
      | (with_reducible refine And.intro ?_ ?_)
      | ((with_reducible intro h9); first | exact absurd h9 (by decide) | (replace h9 := zle (a := 7) (by omega) (by omega) h9) | (replace h9 := znle (a := 7) (by omega) (by omega) h9) | skip)
      | (with_reducible exact zn_in (by omega) (by decide))
      | (with_reducible exact z01) | (with_reducible exact z11) | (with_reducible exact zb01 _)
      | (with_reducible exact zn_inb (by omega) (by decide))
      | (with_reducible exact zn_ina (by omega) (by decide))
      | (with_reducible exact zn_inc (by omega) (by decide))
      | ((conv => whnf); first | (with_reducible refine And.intro ?_ ?_) | ((with_reducible intro h9); first | exact absurd h9 (by decide) | (replace h9 := zle (a := 7) (by omega) (by omega) h9) | (replace h9 := znle (a := 7) (by omega) (by omega) h9) | skip) | (with_reducible refine hK _ _ _ _ (sm_un ?_)) | (with_reducible refine g_howMany (hC.mono (by omega)) hR hI1 ?_) | (with_reducible refine s_mix (hC.mono (by omega)) hl (fun L2 hl2 => ?_)))
    · obtain rfl : i = 7 := by omega
      have e := hQ G1 L1 hx hI1
      unfold A_digest at e
      rw [← hl] at e
      exact e
    · simp only [nI_add]; exact ⟨⟨ih ‹_› G1 L2 hx hI1 hl2⟩⟩
  have lo3 : ∀ i, i ≤ S 0 3 → ∀ G1 L1, eqx mdlP G G1 → Im c S G1 → L1 30 31 = dP S (dF S (dB S (dVs S (S 0 1)) (S 0 0))) i → sm_Wk 8 140 Q none 72 [some (.ref 30), some (.int (nI i))] [] (hp G1 L1) := by
    refine up _ (fun i hi ih G1 L1 hx hI1 hl => ?_)
    obtain ⟨e1, e2⟩ := hI1.2.2.1
    refine sm_body [72, 99] 80 sm_k140 (fun CT K hC hK => ?_)
    repeat' first
      | (with_reducible refine And.intro ?_ ?_)
      | ((with_reducible intro h9); first | exact absurd h9 (by decide) | (replace h9 := nle e1 (by omega) (by omega) h9) | (replace h9 := yle e1 (by omega) (by omega) h9) | skip)
      | (with_reducible exact zn_in (by omega) (by decide))
      | (with_reducible exact z01) | (with_reducible exact z11) | (with_reducible exact zb01 _)
      | (with_reducible exact zn_inb (by omega) (by decide))
      | (with_reducible exact zn_ina (by omega) (by decide))
      | (with_reducible exact zn_inc (by omega) (by decide))
      | ((conv => whnf); first | (with_reducible refine And.intro ?_ ?_) | ((with_reducible intro h9); first | exact absurd h9 (by decide) | (replace h9 := nle e1 (by omega) (by omega) h9) | (replace h9 := yle e1 (by omega) (by omega) h9) | skip) | (with_reducible refine hK _ _ _ _ (sm_un ?_)) | (with_reducible refine s_mix (hC.mono (by omega)) hl (fun L2 hl2 => ?_)))
    · obtain rfl : i = S 0 3 := by omega
      exact ⟨⟨lo4 0 (Nat.zero_le _) G1 L1 hx hI1 hl⟩⟩
    · simp only [nI_add]; exact ⟨⟨ih ‹_› G1 L2 hx hI1 (by rw [hl2, zn_clI (by omega), e2 i ‹_›]; rfl)⟩⟩
  have mid : ∀ G1 L1, eqx mdlP G G1 → Im c S G1 → L1 30 31 = dB S (dVs S (S 0 1)) (S 0 0) → sm_Wk 8 140 Q none 54 [some (.ref 30), some (.int (nI (S 0 0)))] [] (hp G1 L1) := by
    intro G1 L1 hx hI1 hl
    obtain ⟨i1, i2, i3, i4, i5, i6, i7⟩ := id hI1
    have e1 := i1.1
    refine sm_body [72] 80 sm_k140 (fun CT K hC hK => ?_)
    repeat' first
      | (with_reducible refine And.intro ?_ ?_)
      | ((with_reducible intro h9); first | exact absurd h9 (by decide) | ((rw [e1] at h9; replace h9 := zle (b := 0) (by omega) (by omega) h9)) | ((rw [e1] at h9; replace h9 := znle (b := 0) (by omega) (by omega) h9)) | skip)
      | (with_reducible exact zn_in (by omega) (by decide))
      | (with_reducible exact z01) | (with_reducible exact z11) | (with_reducible exact zb01 _)
      | (with_reducible exact zn_inb (by omega) (by decide))
      | (with_reducible exact zn_ina (by omega) (by decide))
      | (with_reducible exact zn_inc (by omega) (by decide))
      | ((conv => whnf); first | (with_reducible refine And.intro ?_ ?_) | ((with_reducible intro h9); first | exact absurd h9 (by decide) | ((rw [e1] at h9; replace h9 := zle (b := 0) (by omega) (by omega) h9)) | ((rw [e1] at h9; replace h9 := znle (b := 0) (by omega) (by omega) h9)) | skip) | (with_reducible refine hK _ _ _ _ (sm_un ?_)) | (with_reducible refine s_fittingNow (hC.mono (by omega)) i1 hdR i2 hnR (fun G2 hx2 hp2 => ?_)) | (with_reducible refine s_mix (hC.mono (by omega)) hl (fun L2 hl2 => ?_)))
    · exact ⟨⟨lo3 0 (Nat.zero_le _) G1 L1 hx hI1 (by rw [hl]; exact (if_t (show S 0 0 = 0 by omega)).symm)⟩⟩
    · exact ⟨⟨lo3 0 (Nat.zero_le _) G2 L2 (eqx_trans hx (eqx_sub rfl hx2)) (Im_39 (eqx_sub rfl hx2) (hp2 i7) hI1) (by rw [hl2]; exact (if_f (show ¬ S 0 0 = 0 by omega)).symm)⟩⟩
  have lo2 : ∀ i, i ≤ S 0 0 → ∀ G1 L1, eqx mdlP G G1 → Im c S G1 → L1 30 31 = dB S (dVs S (S 0 1)) i → sm_Wk 8 140 Q none 30 [some (.ref 30), some (.int (nI i))] [] (hp G1 L1) := by
    refine up _ (fun i hi ih G1 L1 hx hI1 hl => ?_)
    obtain ⟨i1, i2, i3, i4, i5, i6, i7⟩ := id hI1
    have e1 := i1.1
    refine sm_body [30, 54] 80 sm_k140 (fun CT K hC hK => ?_)
    repeat' first
      | (with_reducible refine And.intro ?_ ?_)
      | ((with_reducible intro h9); first | exact absurd h9 (by decide) | (replace h9 := nle e1 (by omega) (by omega) h9) | (replace h9 := yle e1 (by omega) (by omega) h9) | skip)
      | (with_reducible exact zn_in (by omega) (by decide))
      | (with_reducible exact z01) | (with_reducible exact z11) | (with_reducible exact zb01 _)
      | (with_reducible exact zn_inb (by omega) (by decide))
      | (with_reducible exact zn_ina (by omega) (by decide))
      | (with_reducible exact zn_inc (by omega) (by decide))
      | ((conv => whnf); first | (with_reducible refine And.intro ?_ ?_) | ((with_reducible intro h9); first | exact absurd h9 (by decide) | (replace h9 := nle e1 (by omega) (by omega) h9) | (replace h9 := yle e1 (by omega) (by omega) h9) | skip) | (with_reducible refine hK _ _ _ _ (sm_un ?_)) | (with_reducible refine s_blowsNow (hC.mono (by omega)) i1 hdR i2 hnR ‹_› (fun G2 hx2 hp2 => ?_)) | (with_reducible refine s_mix (hC.mono (by omega)) hl (fun L2 hl2 => ?_)))
    · obtain rfl : i = S 0 0 := by omega
      exact ⟨⟨mid G1 L1 hx hI1 hl⟩⟩
    · simp only [nI_add]; exact ⟨⟨ih ‹_› G2 L2 (eqx_trans hx (eqx_sub rfl hx2)) (Im_39 (eqx_sub rfl hx2) (hp2 i7) hI1) hl2⟩⟩
  have lo : ∀ i, i ≤ S 0 1 → ∀ G1 L1, eqx mdlP G G1 → Im c S G1 → L1 30 31 = dVs S i → sm_Wk 8 140 Q none 9 [some (.ref 30), some (.int (nI i))] [] (hp G1 L1) := by
    refine up _ (fun i hi ih G1 L1 hx hI1 hl => ?_)
    have e1 := hI1.1.2.1
    refine sm_body [9, 30] 80 sm_k140 (fun CT K hC hK => ?_)
    repeat' first
      | (with_reducible refine And.intro ?_ ?_)
      | ((with_reducible intro h9); first | exact absurd h9 (by decide) | (replace h9 := nle e1 (by omega) (by omega) h9) | (replace h9 := yle e1 (by omega) (by omega) h9) | skip)
      | (with_reducible exact zn_in (by omega) (by decide))
      | (with_reducible exact z01) | (with_reducible exact z11) | (with_reducible exact zb01 _)
      | (with_reducible exact zn_inb (by omega) (by decide))
      | (with_reducible exact zn_ina (by omega) (by decide))
      | (with_reducible exact zn_inc (by omega) (by decide))
      | ((conv => whnf); first | (with_reducible refine And.intro ?_ ?_) | ((with_reducible intro h9); first | exact absurd h9 (by decide) | (replace h9 := nle e1 (by omega) (by omega) h9) | (replace h9 := yle e1 (by omega) (by omega) h9) | skip) | (with_reducible refine hK _ _ _ _ (sm_un ?_)) | (with_reducible refine s_mixVane (hC.mono (by omega)) hR hI1 ‹_› hl (fun G2 L2 hx2 hI2 hl2 => ?_)))
    · obtain rfl : i = S 0 1 := by omega
      exact ⟨⟨lo2 0 (Nat.zero_le _) G1 L1 hx hI1 hl⟩⟩
    · simp only [nI_add]; exact ⟨⟨ih ‹_› G2 L2 (eqx_trans hx hx2) hI2 hl2⟩⟩
  refine sm_body [9] 80 sm_k140 (fun CT K hC hK => ?_)
  repeat' first
    | (with_reducible refine And.intro ?_ ?_)
    | ((with_reducible intro h9); first | exact absurd h9 (by decide) | skip)
    | (with_reducible exact zn_in (by omega) (by decide))
    | (with_reducible exact z01) | (with_reducible exact z11) | (with_reducible exact zb01 _)
    | (with_reducible exact zn_inb (by omega) (by decide))
    | (with_reducible exact zn_ina (by omega) (by decide))
    | (with_reducible exact zn_inc (by omega) (by decide))
    | ((conv => whnf); first | (with_reducible refine And.intro ?_ ?_) | ((with_reducible intro h9); first | exact absurd h9 (by decide) | skip) | (with_reducible refine hK _ _ _ _ (sm_un ?_)))
  simp only [hp_0, hp_1, hp_2, hp_3, hp_4, hp_5, hp_6, hp_7, hp_8, hp_9, hp_10, hp_11, hp_12, hp_13, hp_14, hp_15, hp_16, hp_17, hp_18, hp_19, hp_20, hp_22, hp_23, hp_24, hp_25, hp_26, hp_27, hp_28, hp_29, hp_30, hp_31, hp_32, hp_33, hp_34, hp_35, hp_36, hp_37, hp_38, hp_39, hp_40, hp_41, hp_42, hp_43, hp_44, hp_45, hp_46, hp_47, hp_48, hp_49, hf0_5, hf0_6, hf0_7, hf1_1, hf3_0, hf3_2, hf3_6, hf10_0, hf10_2, hf10_6, hf17_3, hf17_4, hf20_3, hf20_4, hf30_0, hf30_1, hf30_3, hf30_7, hf30_11, hf30_12, hf30_20, hf30_22, hf30_23, hf30_24, hf30_25, hf30_21, hf30_31, upd_su, updL_su, su_self]
  exact ⟨⟨lo 0 (Nat.zero_le _) G _ eqx_rfl hI rfl⟩⟩
end DIGM
end
