section
-- ===== PART A: goes FIRST, ahead of the names: the tables' words, and 'selects' of the private methods out of them =====
/-- a private method of a class that the tables say can be made, by its rows of tables_1 -/
def lw_okq (q : MethodName × Nat) : Prop := (q.1.cls ≠ "java/lang/invoke/MethodHandle" ∧ q.1.cls ≠ "java/lang/invoke/VarHandle") ∧ Cond.instantiable q.1.cls q.2 ∈ tables_1 ∧ Cond.privateMethod q.1 ∈ tables_1 ∧ Cond.instanceMethod q.1 ∈ tables_1
theorem lw_p0 : lw_okq (⟨"ReelChange", "refuse", "(I)I"⟩, 10) := ⟨⟨by decide +kernel, by decide +kernel⟩, List.mem_of_getElem? (i := 25) (by decide +kernel), List.mem_of_getElem? (i := 399) (by decide +kernel), List.mem_of_getElem? (i := 400) (by decide +kernel)⟩
theorem lw_p1 : lw_okq (⟨"ReelChange$Text", "next", "()V"⟩, 15) := ⟨⟨by decide +kernel, by decide +kernel⟩, List.mem_of_getElem? (i := 33) (by decide +kernel), List.mem_of_getElem? (i := 421) (by decide +kernel), List.mem_of_getElem? (i := 422) (by decide +kernel)⟩
theorem lw_p2 : lw_okq (⟨"ReelChange$Text", "kindAt", "(I)I"⟩, 15) := ⟨⟨by decide +kernel, by decide +kernel⟩, List.mem_of_getElem? (i := 33) (by decide +kernel), List.mem_of_getElem? (i := 425) (by decide +kernel), List.mem_of_getElem? (i := 426) (by decide +kernel)⟩
theorem lw_p3 : lw_okq (⟨"ReelChange$Text", "isLine", "()Z"⟩, 15) := ⟨⟨by decide +kernel, by decide +kernel⟩, List.mem_of_getElem? (i := 33) (by decide +kernel), List.mem_of_getElem? (i := 430) (by decide +kernel), List.mem_of_getElem? (i := 431) (by decide +kernel)⟩
theorem lw_p4 : lw_okq (⟨"ReelChange$Text", "is", "(Ljava/lang/String;)Z"⟩, 15) := ⟨⟨by decide +kernel, by decide +kernel⟩, List.mem_of_getElem? (i := 33) (by decide +kernel), List.mem_of_getElem? (i := 435) (by decide +kernel), List.mem_of_getElem? (i := 436) (by decide +kernel)⟩
theorem lw_p5 : lw_okq (⟨"ReelChange$Text", "isHouseLine", "()Z"⟩, 15) := ⟨⟨by decide +kernel, by decide +kernel⟩, List.mem_of_getElem? (i := 33) (by decide +kernel), List.mem_of_getElem? (i := 487) (by decide +kernel), List.mem_of_getElem? (i := 488) (by decide +kernel)⟩
theorem lw_p6 : lw_okq (⟨"ReelChange$Text", "refuseAt", "(II)Z"⟩, 15) := ⟨⟨by decide +kernel, by decide +kernel⟩, List.mem_of_getElem? (i := 33) (by decide +kernel), List.mem_of_getElem? (i := 491) (by decide +kernel), List.mem_of_getElem? (i := 492) (by decide +kernel)⟩
theorem lw_p7 : lw_okq (⟨"ReelChange$Text", "isNumber", "(Ljava/lang/String;III)Z"⟩, 15) := ⟨⟨by decide +kernel, by decide +kernel⟩, List.mem_of_getElem? (i := 33) (by decide +kernel), List.mem_of_getElem? (i := 496) (by decide +kernel), List.mem_of_getElem? (i := 497) (by decide +kernel)⟩
theorem lw_p8 : lw_okq (⟨"ReelChange$Text", "isLabel", "(Ljava/lang/String;)Z"⟩, 15) := ⟨⟨by decide +kernel, by decide +kernel⟩, List.mem_of_getElem? (i := 33) (by decide +kernel), List.mem_of_getElem? (i := 500) (by decide +kernel), List.mem_of_getElem? (i := 501) (by decide +kernel)⟩
theorem lw_p9 : lw_okq (⟨"ReelChange$Text", "isWhole", "(II)Z"⟩, 15) := ⟨⟨by decide +kernel, by decide +kernel⟩, List.mem_of_getElem? (i := 33) (by decide +kernel), List.mem_of_getElem? (i := 504) (by decide +kernel), List.mem_of_getElem? (i := 505) (by decide +kernel)⟩
theorem lw_p10 : lw_okq (⟨"ReelChange$Text", "isReserved", "()Z"⟩, 15) := ⟨⟨by decide +kernel, by decide +kernel⟩, List.mem_of_getElem? (i := 33) (by decide +kernel), List.mem_of_getElem? (i := 518) (by decide +kernel), List.mem_of_getElem? (i := 519) (by decide +kernel)⟩
theorem lw_p11 : lw_okq (⟨"ReelChange$Text", "isReelLine", "()Z"⟩, 15) := ⟨⟨by decide +kernel, by decide +kernel⟩, List.mem_of_getElem? (i := 33) (by decide +kernel), List.mem_of_getElem? (i := 532) (by decide +kernel), List.mem_of_getElem? (i := 533) (by decide +kernel)⟩
theorem lw_p12 : lw_okq (⟨"ReelChange$Text", "hasRoom", "(LReelChange$Table;)Z"⟩, 15) := ⟨⟨by decide +kernel, by decide +kernel⟩, List.mem_of_getElem? (i := 33) (by decide +kernel), List.mem_of_getElem? (i := 536) (by decide +kernel), List.mem_of_getElem? (i := 537) (by decide +kernel)⟩
theorem lw_p13 : lw_okq (⟨"ReelChange$Text", "isNewName", "(II)Z"⟩, 15) := ⟨⟨by decide +kernel, by decide +kernel⟩, List.mem_of_getElem? (i := 33) (by decide +kernel), List.mem_of_getElem? (i := 544) (by decide +kernel), List.mem_of_getElem? (i := 545) (by decide +kernel)⟩
theorem lw_p14 : lw_okq (⟨"ReelChange$Text", "findName", "()I"⟩, 15) := ⟨⟨by decide +kernel, by decide +kernel⟩, List.mem_of_getElem? (i := 33) (by decide +kernel), List.mem_of_getElem? (i := 548) (by decide +kernel), List.mem_of_getElem? (i := 549) (by decide +kernel)⟩
theorem lw_p15 : lw_okq (⟨"ReelChange$Text", "isTownLine", "()Z"⟩, 15) := ⟨⟨by decide +kernel, by decide +kernel⟩, List.mem_of_getElem? (i := 33) (by decide +kernel), List.mem_of_getElem? (i := 561) (by decide +kernel), List.mem_of_getElem? (i := 562) (by decide +kernel)⟩
def lw_privs_1 : List (MethodName × Nat) := [(⟨"ReelChange", "refuse", "(I)I"⟩, 10), (⟨"ReelChange$Text", "next", "()V"⟩, 15), (⟨"ReelChange$Text", "kindAt", "(I)I"⟩, 15), (⟨"ReelChange$Text", "isLine", "()Z"⟩, 15), (⟨"ReelChange$Text", "is", "(Ljava/lang/String;)Z"⟩, 15), (⟨"ReelChange$Text", "isHouseLine", "()Z"⟩, 15), (⟨"ReelChange$Text", "refuseAt", "(II)Z"⟩, 15), (⟨"ReelChange$Text", "isNumber", "(Ljava/lang/String;III)Z"⟩, 15), (⟨"ReelChange$Text", "isLabel", "(Ljava/lang/String;)Z"⟩, 15), (⟨"ReelChange$Text", "isWhole", "(II)Z"⟩, 15), (⟨"ReelChange$Text", "isReserved", "()Z"⟩, 15), (⟨"ReelChange$Text", "isReelLine", "()Z"⟩, 15), (⟨"ReelChange$Text", "hasRoom", "(LReelChange$Table;)Z"⟩, 15), (⟨"ReelChange$Text", "isNewName", "(II)Z"⟩, 15), (⟨"ReelChange$Text", "findName", "()I"⟩, 15), (⟨"ReelChange$Text", "isTownLine", "()Z"⟩, 15)]
theorem lw_r1 : ∀ q ∈ lw_privs_1, lw_okq q := List.forall_mem_cons.mpr ⟨lw_p0, List.forall_mem_cons.mpr ⟨lw_p1, List.forall_mem_cons.mpr ⟨lw_p2, List.forall_mem_cons.mpr ⟨lw_p3, List.forall_mem_cons.mpr ⟨lw_p4, List.forall_mem_cons.mpr ⟨lw_p5, List.forall_mem_cons.mpr ⟨lw_p6, List.forall_mem_cons.mpr ⟨lw_p7, List.forall_mem_cons.mpr ⟨lw_p8, List.forall_mem_cons.mpr ⟨lw_p9, List.forall_mem_cons.mpr ⟨lw_p10, List.forall_mem_cons.mpr ⟨lw_p11, List.forall_mem_cons.mpr ⟨lw_p12, List.forall_mem_cons.mpr ⟨lw_p13, List.forall_mem_cons.mpr ⟨lw_p14, List.forall_mem_cons.mpr ⟨lw_p15, fun _ h => absurd h List.not_mem_nil⟩⟩⟩⟩⟩⟩⟩⟩⟩⟩⟩⟩⟩⟩⟩⟩
theorem lw_p16 : lw_okq (⟨"ReelChange$Text", "isMarkLine", "()Z"⟩, 15) := ⟨⟨by decide +kernel, by decide +kernel⟩, List.mem_of_getElem? (i := 33) (by decide +kernel), List.mem_of_getElem? (i := 566) (by decide +kernel), List.mem_of_getElem? (i := 567) (by decide +kernel)⟩
theorem lw_p17 : lw_okq (⟨"ReelChange$Text", "isOldName", "(I)Z"⟩, 15) := ⟨⟨by decide +kernel, by decide +kernel⟩, List.mem_of_getElem? (i := 33) (by decide +kernel), List.mem_of_getElem? (i := 570) (by decide +kernel), List.mem_of_getElem? (i := 571) (by decide +kernel)⟩
theorem lw_p18 : lw_okq (⟨"ReelChange$Text", "lastFrame", "(I)I"⟩, 15) := ⟨⟨by decide +kernel, by decide +kernel⟩, List.mem_of_getElem? (i := 33) (by decide +kernel), List.mem_of_getElem? (i := 578) (by decide +kernel), List.mem_of_getElem? (i := 579) (by decide +kernel)⟩
theorem lw_p19 : lw_okq (⟨"ReelChange$Text", "isJoinLine", "()Z"⟩, 15) := ⟨⟨by decide +kernel, by decide +kernel⟩, List.mem_of_getElem? (i := 33) (by decide +kernel), List.mem_of_getElem? (i := 587) (by decide +kernel), List.mem_of_getElem? (i := 588) (by decide +kernel)⟩
theorem lw_p20 : lw_okq (⟨"ReelChange$Text", "isWeakLine", "()Z"⟩, 15) := ⟨⟨by decide +kernel, by decide +kernel⟩, List.mem_of_getElem? (i := 33) (by decide +kernel), List.mem_of_getElem? (i := 592) (by decide +kernel), List.mem_of_getElem? (i := 593) (by decide +kernel)⟩
theorem lw_p21 : lw_okq (⟨"ReelChange$Text", "isManLine", "()Z"⟩, 15) := ⟨⟨by decide +kernel, by decide +kernel⟩, List.mem_of_getElem? (i := 33) (by decide +kernel), List.mem_of_getElem? (i := 597) (by decide +kernel), List.mem_of_getElem? (i := 598) (by decide +kernel)⟩
theorem lw_p22 : lw_okq (⟨"ReelChange$Text", "kindOfMan", "()I"⟩, 15) := ⟨⟨by decide +kernel, by decide +kernel⟩, List.mem_of_getElem? (i := 33) (by decide +kernel), List.mem_of_getElem? (i := 601) (by decide +kernel), List.mem_of_getElem? (i := 602) (by decide +kernel)⟩
theorem lw_p23 : lw_okq (⟨"ReelChange$Text", "isShowsLine", "()Z"⟩, 15) := ⟨⟨by decide +kernel, by decide +kernel⟩, List.mem_of_getElem? (i := 33) (by decide +kernel), List.mem_of_getElem? (i := 610) (by decide +kernel), List.mem_of_getElem? (i := 611) (by decide +kernel)⟩
theorem lw_p24 : lw_okq (⟨"ReelChange$Text", "isBoysLine", "()Z"⟩, 15) := ⟨⟨by decide +kernel, by decide +kernel⟩, List.mem_of_getElem? (i := 33) (by decide +kernel), List.mem_of_getElem? (i := 619) (by decide +kernel), List.mem_of_getElem? (i := 620) (by decide +kernel)⟩
theorem lw_p25 : lw_okq (⟨"ReelChange$Text", "isSeenLine", "()Z"⟩, 15) := ⟨⟨by decide +kernel, by decide +kernel⟩, List.mem_of_getElem? (i := 33) (by decide +kernel), List.mem_of_getElem? (i := 625) (by decide +kernel), List.mem_of_getElem? (i := 626) (by decide +kernel)⟩
theorem lw_p26 : lw_okq (⟨"ReelChange$Text", "isScratchLine", "()Z"⟩, 15) := ⟨⟨by decide +kernel, by decide +kernel⟩, List.mem_of_getElem? (i := 33) (by decide +kernel), List.mem_of_getElem? (i := 631) (by decide +kernel), List.mem_of_getElem? (i := 632) (by decide +kernel)⟩
theorem lw_p27 : lw_okq (⟨"ReelChange$Text", "isFollowed", "()Z"⟩, 15) := ⟨⟨by decide +kernel, by decide +kernel⟩, List.mem_of_getElem? (i := 33) (by decide +kernel), List.mem_of_getElem? (i := 635) (by decide +kernel), List.mem_of_getElem? (i := 636) (by decide +kernel)⟩
theorem lw_p28 : lw_okq (⟨"ReelChange", "tell", "(I)I"⟩, 10) := ⟨⟨by decide +kernel, by decide +kernel⟩, List.mem_of_getElem? (i := 25) (by decide +kernel), List.mem_of_getElem? (i := 660) (by decide +kernel), List.mem_of_getElem? (i := 661) (by decide +kernel)⟩
theorem lw_p29 : lw_okq (⟨"ReelChange", "ofPlace", "(II)I"⟩, 10) := ⟨⟨by decide +kernel, by decide +kernel⟩, List.mem_of_getElem? (i := 25) (by decide +kernel), List.mem_of_getElem? (i := 704) (by decide +kernel), List.mem_of_getElem? (i := 705) (by decide +kernel)⟩
theorem lw_p30 : lw_okq (⟨"ReelChange", "ofNight", "(III)I"⟩, 10) := ⟨⟨by decide +kernel, by decide +kernel⟩, List.mem_of_getElem? (i := 25) (by decide +kernel), List.mem_of_getElem? (i := 716) (by decide +kernel), List.mem_of_getElem? (i := 717) (by decide +kernel)⟩
theorem lw_p31 : lw_okq (⟨"ReelChange", "runNight", "(I)Z"⟩, 10) := ⟨⟨by decide +kernel, by decide +kernel⟩, List.mem_of_getElem? (i := 25) (by decide +kernel), List.mem_of_getElem? (i := 720) (by decide +kernel), List.mem_of_getElem? (i := 721) (by decide +kernel)⟩
def lw_privs_2 : List (MethodName × Nat) := [(⟨"ReelChange$Text", "isMarkLine", "()Z"⟩, 15), (⟨"ReelChange$Text", "isOldName", "(I)Z"⟩, 15), (⟨"ReelChange$Text", "lastFrame", "(I)I"⟩, 15), (⟨"ReelChange$Text", "isJoinLine", "()Z"⟩, 15), (⟨"ReelChange$Text", "isWeakLine", "()Z"⟩, 15), (⟨"ReelChange$Text", "isManLine", "()Z"⟩, 15), (⟨"ReelChange$Text", "kindOfMan", "()I"⟩, 15), (⟨"ReelChange$Text", "isShowsLine", "()Z"⟩, 15), (⟨"ReelChange$Text", "isBoysLine", "()Z"⟩, 15), (⟨"ReelChange$Text", "isSeenLine", "()Z"⟩, 15), (⟨"ReelChange$Text", "isScratchLine", "()Z"⟩, 15), (⟨"ReelChange$Text", "isFollowed", "()Z"⟩, 15), (⟨"ReelChange", "tell", "(I)I"⟩, 10), (⟨"ReelChange", "ofPlace", "(II)I"⟩, 10), (⟨"ReelChange", "ofNight", "(III)I"⟩, 10), (⟨"ReelChange", "runNight", "(I)Z"⟩, 10)]
theorem lw_r2 : ∀ q ∈ lw_privs_2, lw_okq q := List.forall_mem_cons.mpr ⟨lw_p16, List.forall_mem_cons.mpr ⟨lw_p17, List.forall_mem_cons.mpr ⟨lw_p18, List.forall_mem_cons.mpr ⟨lw_p19, List.forall_mem_cons.mpr ⟨lw_p20, List.forall_mem_cons.mpr ⟨lw_p21, List.forall_mem_cons.mpr ⟨lw_p22, List.forall_mem_cons.mpr ⟨lw_p23, List.forall_mem_cons.mpr ⟨lw_p24, List.forall_mem_cons.mpr ⟨lw_p25, List.forall_mem_cons.mpr ⟨lw_p26, List.forall_mem_cons.mpr ⟨lw_p27, List.forall_mem_cons.mpr ⟨lw_p28, List.forall_mem_cons.mpr ⟨lw_p29, List.forall_mem_cons.mpr ⟨lw_p30, List.forall_mem_cons.mpr ⟨lw_p31, fun _ h => absurd h List.not_mem_nil⟩⟩⟩⟩⟩⟩⟩⟩⟩⟩⟩⟩⟩⟩⟩⟩
theorem lw_p32 : lw_okq (⟨"ReelChange$Night", "goBy", "(II)V"⟩, 9) := ⟨⟨by decide +kernel, by decide +kernel⟩, List.mem_of_getElem? (i := 246) (by decide +kernel), List.mem_of_getElem? (i := 747) (by decide +kernel), List.mem_of_getElem? (i := 748) (by decide +kernel)⟩
theorem lw_p33 : lw_okq (⟨"ReelChange$Night", "showReel", "(LReelChange$House;LReelChange$State;II)V"⟩, 9) := ⟨⟨by decide +kernel, by decide +kernel⟩, List.mem_of_getElem? (i := 246) (by decide +kernel), List.mem_of_getElem? (i := 751) (by decide +kernel), List.mem_of_getElem? (i := 752) (by decide +kernel)⟩
theorem lw_p34 : lw_okq (⟨"ReelChange$Night", "slipNow", "()I"⟩, 9) := ⟨⟨by decide +kernel, by decide +kernel⟩, List.mem_of_getElem? (i := 246) (by decide +kernel), List.mem_of_getElem? (i := 755) (by decide +kernel), List.mem_of_getElem? (i := 756) (by decide +kernel)⟩
theorem lw_p35 : lw_okq (⟨"ReelChange$Night", "draw", "()I"⟩, 9) := ⟨⟨by decide +kernel, by decide +kernel⟩, List.mem_of_getElem? (i := 246) (by decide +kernel), List.mem_of_getElem? (i := 759) (by decide +kernel), List.mem_of_getElem? (i := 760) (by decide +kernel)⟩
theorem lw_p36 : lw_okq (⟨"ReelChange$Night", "snapWeakPlaces", "(LReelChange$House;LReelChange$State;I)V"⟩, 9) := ⟨⟨by decide +kernel, by decide +kernel⟩, List.mem_of_getElem? (i := 246) (by decide +kernel), List.mem_of_getElem? (i := 768) (by decide +kernel), List.mem_of_getElem? (i := 769) (by decide +kernel)⟩
theorem lw_p37 : lw_okq (⟨"ReelChange", "isOpen", "()Z"⟩, 10) := ⟨⟨by decide +kernel, by decide +kernel⟩, List.mem_of_getElem? (i := 25) (by decide +kernel), List.mem_of_getElem? (i := 841) (by decide +kernel), List.mem_of_getElem? (i := 842) (by decide +kernel)⟩
theorem lw_p38 : lw_okq (⟨"ReelChange", "leastSlip", "(I)I"⟩, 10) := ⟨⟨by decide +kernel, by decide +kernel⟩, List.mem_of_getElem? (i := 25) (by decide +kernel), List.mem_of_getElem? (i := 849) (by decide +kernel), List.mem_of_getElem? (i := 850) (by decide +kernel)⟩
theorem lw_p39 : lw_okq (⟨"ReelChange$State", "isMarked", "(III)Z"⟩, 6) := ⟨⟨by decide +kernel, by decide +kernel⟩, List.mem_of_getElem? (i := 45) (by decide +kernel), List.mem_of_getElem? (i := 928) (by decide +kernel), List.mem_of_getElem? (i := 929) (by decide +kernel)⟩
theorem lw_p40 : lw_okq (⟨"ReelChange", "tellPart", "(Z)J"⟩, 10) := ⟨⟨by decide +kernel, by decide +kernel⟩, List.mem_of_getElem? (i := 25) (by decide +kernel), List.mem_of_getElem? (i := 948) (by decide +kernel), List.mem_of_getElem? (i := 949) (by decide +kernel)⟩
theorem lw_p41 : lw_okq (⟨"ReelChange", "nearestMark", "(I)I"⟩, 10) := ⟨⟨by decide +kernel, by decide +kernel⟩, List.mem_of_getElem? (i := 25) (by decide +kernel), List.mem_of_getElem? (i := 968) (by decide +kernel), List.mem_of_getElem? (i := 969) (by decide +kernel)⟩
theorem lw_p42 : lw_okq (⟨"ReelChange", "farFrom", "(II)I"⟩, 10) := ⟨⟨by decide +kernel, by decide +kernel⟩, List.mem_of_getElem? (i := 25) (by decide +kernel), List.mem_of_getElem? (i := 972) (by decide +kernel), List.mem_of_getElem? (i := 973) (by decide +kernel)⟩
theorem lw_p43 : lw_okq (⟨"ReelChange", "lackedBy", "(I)I"⟩, 10) := ⟨⟨by decide +kernel, by decide +kernel⟩, List.mem_of_getElem? (i := 25) (by decide +kernel), List.mem_of_getElem? (i := 985) (by decide +kernel), List.mem_of_getElem? (i := 986) (by decide +kernel)⟩
theorem lw_p44 : lw_okq (⟨"ReelChange", "rideTrouble", "(III)I"⟩, 10) := ⟨⟨by decide +kernel, by decide +kernel⟩, List.mem_of_getElem? (i := 25) (by decide +kernel), List.mem_of_getElem? (i := 1018) (by decide +kernel), List.mem_of_getElem? (i := 1019) (by decide +kernel)⟩
theorem lw_p45 : lw_okq (⟨"ReelChange", "boysMeant", "(I)I"⟩, 10) := ⟨⟨by decide +kernel, by decide +kernel⟩, List.mem_of_getElem? (i := 25) (by decide +kernel), List.mem_of_getElem? (i := 1022) (by decide +kernel), List.mem_of_getElem? (i := 1023) (by decide +kernel)⟩
theorem lw_p46 : lw_okq (⟨"ReelChange", "apartBy", "(I)I"⟩, 10) := ⟨⟨by decide +kernel, by decide +kernel⟩, List.mem_of_getElem? (i := 25) (by decide +kernel), List.mem_of_getElem? (i := 1026) (by decide +kernel), List.mem_of_getElem? (i := 1027) (by decide +kernel)⟩
theorem lw_p47 : lw_okq (⟨"ReelChange$Riders", "soonestBack", "(I)I"⟩, 3) := ⟨⟨by decide +kernel, by decide +kernel⟩, List.mem_of_getElem? (i := 303) (by decide +kernel), List.mem_of_getElem? (i := 1035) (by decide +kernel), List.mem_of_getElem? (i := 1036) (by decide +kernel)⟩
def lw_privs_3 : List (MethodName × Nat) := [(⟨"ReelChange$Night", "goBy", "(II)V"⟩, 9), (⟨"ReelChange$Night", "showReel", "(LReelChange$House;LReelChange$State;II)V"⟩, 9), (⟨"ReelChange$Night", "slipNow", "()I"⟩, 9), (⟨"ReelChange$Night", "draw", "()I"⟩, 9), (⟨"ReelChange$Night", "snapWeakPlaces", "(LReelChange$House;LReelChange$State;I)V"⟩, 9), (⟨"ReelChange", "isOpen", "()Z"⟩, 10), (⟨"ReelChange", "leastSlip", "(I)I"⟩, 10), (⟨"ReelChange$State", "isMarked", "(III)Z"⟩, 6), (⟨"ReelChange", "tellPart", "(Z)J"⟩, 10), (⟨"ReelChange", "nearestMark", "(I)I"⟩, 10), (⟨"ReelChange", "farFrom", "(II)I"⟩, 10), (⟨"ReelChange", "lackedBy", "(I)I"⟩, 10), (⟨"ReelChange", "rideTrouble", "(III)I"⟩, 10), (⟨"ReelChange", "boysMeant", "(I)I"⟩, 10), (⟨"ReelChange", "apartBy", "(I)I"⟩, 10), (⟨"ReelChange$Riders", "soonestBack", "(I)I"⟩, 3)]
theorem lw_r3 : ∀ q ∈ lw_privs_3, lw_okq q := List.forall_mem_cons.mpr ⟨lw_p32, List.forall_mem_cons.mpr ⟨lw_p33, List.forall_mem_cons.mpr ⟨lw_p34, List.forall_mem_cons.mpr ⟨lw_p35, List.forall_mem_cons.mpr ⟨lw_p36, List.forall_mem_cons.mpr ⟨lw_p37, List.forall_mem_cons.mpr ⟨lw_p38, List.forall_mem_cons.mpr ⟨lw_p39, List.forall_mem_cons.mpr ⟨lw_p40, List.forall_mem_cons.mpr ⟨lw_p41, List.forall_mem_cons.mpr ⟨lw_p42, List.forall_mem_cons.mpr ⟨lw_p43, List.forall_mem_cons.mpr ⟨lw_p44, List.forall_mem_cons.mpr ⟨lw_p45, List.forall_mem_cons.mpr ⟨lw_p46, List.forall_mem_cons.mpr ⟨lw_p47, fun _ h => absurd h List.not_mem_nil⟩⟩⟩⟩⟩⟩⟩⟩⟩⟩⟩⟩⟩⟩⟩⟩
theorem lw_p48 : lw_okq (⟨"ReelChange$Exchanger", "sort", "(LReelChange$State;)V"⟩, 3) := ⟨⟨by decide +kernel, by decide +kernel⟩, List.mem_of_getElem? (i := 323) (by decide +kernel), List.mem_of_getElem? (i := 1071) (by decide +kernel), List.mem_of_getElem? (i := 1072) (by decide +kernel)⟩
theorem lw_p49 : lw_okq (⟨"ReelChange$Exchanger", "weigh", "(LReelChange$State;)V"⟩, 3) := ⟨⟨by decide +kernel, by decide +kernel⟩, List.mem_of_getElem? (i := 323) (by decide +kernel), List.mem_of_getElem? (i := 1078) (by decide +kernel), List.mem_of_getElem? (i := 1079) (by decide +kernel)⟩
theorem lw_p50 : lw_okq (⟨"ReelChange", "wasteByDraws", "(III)I"⟩, 10) := ⟨⟨by decide +kernel, by decide +kernel⟩, List.mem_of_getElem? (i := 25) (by decide +kernel), List.mem_of_getElem? (i := 1101) (by decide +kernel), List.mem_of_getElem? (i := 1102) (by decide +kernel)⟩
theorem lw_p51 : lw_okq (⟨"ReelChange", "refuseAct", "(I)Z"⟩, 10) := ⟨⟨by decide +kernel, by decide +kernel⟩, List.mem_of_getElem? (i := 25) (by decide +kernel), List.mem_of_getElem? (i := 1109) (by decide +kernel), List.mem_of_getElem? (i := 1110) (by decide +kernel)⟩
theorem lw_p52 : lw_okq (⟨"ReelChange", "actDone", "()Z"⟩, 10) := ⟨⟨by decide +kernel, by decide +kernel⟩, List.mem_of_getElem? (i := 25) (by decide +kernel), List.mem_of_getElem? (i := 1123) (by decide +kernel), List.mem_of_getElem? (i := 1124) (by decide +kernel)⟩
theorem lw_p53 : lw_okq (⟨"java/lang/Throwable", "fillInStackTrace", "(I)Ljava/lang/Throwable;"⟩, 6) := ⟨⟨by decide +kernel, by decide +kernel⟩, List.mem_of_getElem? (i := 1225) (by decide +kernel), List.mem_of_getElem? (i := 1223) (by decide +kernel), List.mem_of_getElem? (i := 1224) (by decide +kernel)⟩
theorem lw_p54 : lw_okq (⟨"ReelChangeModel", "good", "()V"⟩, 43) := ⟨⟨by decide +kernel, by decide +kernel⟩, List.mem_of_getElem? (i := 1250) (by decide +kernel), List.mem_of_getElem? (i := 1394) (by decide +kernel), List.mem_of_getElem? (i := 1395) (by decide +kernel)⟩
theorem lw_p55 : lw_okq (⟨"ReelChangeModel", "no", "(I)I"⟩, 43) := ⟨⟨by decide +kernel, by decide +kernel⟩, List.mem_of_getElem? (i := 1250) (by decide +kernel), List.mem_of_getElem? (i := 1401) (by decide +kernel), List.mem_of_getElem? (i := 1402) (by decide +kernel)⟩
theorem lw_p56 : lw_okq (⟨"ReelChangeModel", "next", "()V"⟩, 43) := ⟨⟨by decide +kernel, by decide +kernel⟩, List.mem_of_getElem? (i := 1250) (by decide +kernel), List.mem_of_getElem? (i := 1405) (by decide +kernel), List.mem_of_getElem? (i := 1406) (by decide +kernel)⟩
theorem lw_p57 : lw_okq (⟨"ReelChangeModel", "look", "(I)I"⟩, 43) := ⟨⟨by decide +kernel, by decide +kernel⟩, List.mem_of_getElem? (i := 1250) (by decide +kernel), List.mem_of_getElem? (i := 1409) (by decide +kernel), List.mem_of_getElem? (i := 1410) (by decide +kernel)⟩
theorem lw_p58 : lw_okq (⟨"ReelChangeModel", "readLine", "()V"⟩, 43) := ⟨⟨by decide +kernel, by decide +kernel⟩, List.mem_of_getElem? (i := 1250) (by decide +kernel), List.mem_of_getElem? (i := 1419) (by decide +kernel), List.mem_of_getElem? (i := 1420) (by decide +kernel)⟩
theorem lw_p59 : lw_okq (⟨"ReelChangeModel", "isWord", "(Ljava/lang/String;)Z"⟩, 43) := ⟨⟨by decide +kernel, by decide +kernel⟩, List.mem_of_getElem? (i := 1250) (by decide +kernel), List.mem_of_getElem? (i := 1424) (by decide +kernel), List.mem_of_getElem? (i := 1425) (by decide +kernel)⟩
theorem lw_p60 : lw_okq (⟨"ReelChangeModel", "houseLine", "()V"⟩, 43) := ⟨⟨by decide +kernel, by decide +kernel⟩, List.mem_of_getElem? (i := 1250) (by decide +kernel), List.mem_of_getElem? (i := 1430) (by decide +kernel), List.mem_of_getElem? (i := 1431) (by decide +kernel)⟩
theorem lw_p61 : lw_okq (⟨"ReelChangeModel", "bad", "(II)V"⟩, 43) := ⟨⟨by decide +kernel, by decide +kernel⟩, List.mem_of_getElem? (i := 1250) (by decide +kernel), List.mem_of_getElem? (i := 1434) (by decide +kernel), List.mem_of_getElem? (i := 1435) (by decide +kernel)⟩
theorem lw_p62 : lw_okq (⟨"ReelChangeModel", "after", "(Ljava/lang/String;II)I"⟩, 43) := ⟨⟨by decide +kernel, by decide +kernel⟩, List.mem_of_getElem? (i := 1250) (by decide +kernel), List.mem_of_getElem? (i := 1439) (by decide +kernel), List.mem_of_getElem? (i := 1440) (by decide +kernel)⟩
theorem lw_p63 : lw_okq (⟨"ReelChangeModel", "must", "(Ljava/lang/String;)V"⟩, 43) := ⟨⟨by decide +kernel, by decide +kernel⟩, List.mem_of_getElem? (i := 1250) (by decide +kernel), List.mem_of_getElem? (i := 1443) (by decide +kernel), List.mem_of_getElem? (i := 1444) (by decide +kernel)⟩
def lw_privs_4 : List (MethodName × Nat) := [(⟨"ReelChange$Exchanger", "sort", "(LReelChange$State;)V"⟩, 3), (⟨"ReelChange$Exchanger", "weigh", "(LReelChange$State;)V"⟩, 3), (⟨"ReelChange", "wasteByDraws", "(III)I"⟩, 10), (⟨"ReelChange", "refuseAct", "(I)Z"⟩, 10), (⟨"ReelChange", "actDone", "()Z"⟩, 10), (⟨"java/lang/Throwable", "fillInStackTrace", "(I)Ljava/lang/Throwable;"⟩, 6), (⟨"ReelChangeModel", "good", "()V"⟩, 43), (⟨"ReelChangeModel", "no", "(I)I"⟩, 43), (⟨"ReelChangeModel", "next", "()V"⟩, 43), (⟨"ReelChangeModel", "look", "(I)I"⟩, 43), (⟨"ReelChangeModel", "readLine", "()V"⟩, 43), (⟨"ReelChangeModel", "isWord", "(Ljava/lang/String;)Z"⟩, 43), (⟨"ReelChangeModel", "houseLine", "()V"⟩, 43), (⟨"ReelChangeModel", "bad", "(II)V"⟩, 43), (⟨"ReelChangeModel", "after", "(Ljava/lang/String;II)I"⟩, 43), (⟨"ReelChangeModel", "must", "(Ljava/lang/String;)V"⟩, 43)]
theorem lw_r4 : ∀ q ∈ lw_privs_4, lw_okq q := List.forall_mem_cons.mpr ⟨lw_p48, List.forall_mem_cons.mpr ⟨lw_p49, List.forall_mem_cons.mpr ⟨lw_p50, List.forall_mem_cons.mpr ⟨lw_p51, List.forall_mem_cons.mpr ⟨lw_p52, List.forall_mem_cons.mpr ⟨lw_p53, List.forall_mem_cons.mpr ⟨lw_p54, List.forall_mem_cons.mpr ⟨lw_p55, List.forall_mem_cons.mpr ⟨lw_p56, List.forall_mem_cons.mpr ⟨lw_p57, List.forall_mem_cons.mpr ⟨lw_p58, List.forall_mem_cons.mpr ⟨lw_p59, List.forall_mem_cons.mpr ⟨lw_p60, List.forall_mem_cons.mpr ⟨lw_p61, List.forall_mem_cons.mpr ⟨lw_p62, List.forall_mem_cons.mpr ⟨lw_p63, fun _ h => absurd h List.not_mem_nil⟩⟩⟩⟩⟩⟩⟩⟩⟩⟩⟩⟩⟩⟩⟩⟩
theorem lw_p64 : lw_okq (⟨"ReelChangeModel", "takesWord", "(Ljava/lang/String;)Z"⟩, 43) := ⟨⟨by decide +kernel, by decide +kernel⟩, List.mem_of_getElem? (i := 1250) (by decide +kernel), List.mem_of_getElem? (i := 1447) (by decide +kernel), List.mem_of_getElem? (i := 1448) (by decide +kernel)⟩
theorem lw_p65 : lw_okq (⟨"ReelChangeModel", "number", "(II)I"⟩, 43) := ⟨⟨by decide +kernel, by decide +kernel⟩, List.mem_of_getElem? (i := 1250) (by decide +kernel), List.mem_of_getElem? (i := 1451) (by decide +kernel), List.mem_of_getElem? (i := 1452) (by decide +kernel)⟩
theorem lw_p66 : lw_okq (⟨"ReelChangeModel", "numberHere", "(II)I"⟩, 43) := ⟨⟨by decide +kernel, by decide +kernel⟩, List.mem_of_getElem? (i := 1250) (by decide +kernel), List.mem_of_getElem? (i := 1455) (by decide +kernel), List.mem_of_getElem? (i := 1456) (by decide +kernel)⟩
theorem lw_p67 : lw_okq (⟨"ReelChangeModel", "opens", "(Ljava/lang/String;Z)Z"⟩, 43) := ⟨⟨by decide +kernel, by decide +kernel⟩, List.mem_of_getElem? (i := 1250) (by decide +kernel), List.mem_of_getElem? (i := 1465) (by decide +kernel), List.mem_of_getElem? (i := 1466) (by decide +kernel)⟩
theorem lw_p68 : lw_okq (⟨"ReelChangeModel", "reelLine", "()V"⟩, 43) := ⟨⟨by decide +kernel, by decide +kernel⟩, List.mem_of_getElem? (i := 1250) (by decide +kernel), List.mem_of_getElem? (i := 1469) (by decide +kernel), List.mem_of_getElem? (i := 1470) (by decide +kernel)⟩
theorem lw_p69 : lw_okq (⟨"ReelChangeModel", "newName", "(I)V"⟩, 43) := ⟨⟨by decide +kernel, by decide +kernel⟩, List.mem_of_getElem? (i := 1250) (by decide +kernel), List.mem_of_getElem? (i := 1473) (by decide +kernel), List.mem_of_getElem? (i := 1474) (by decide +kernel)⟩
theorem lw_p70 : lw_okq (⟨"ReelChangeModel", "mustName", "()V"⟩, 43) := ⟨⟨by decide +kernel, by decide +kernel⟩, List.mem_of_getElem? (i := 1250) (by decide +kernel), List.mem_of_getElem? (i := 1477) (by decide +kernel), List.mem_of_getElem? (i := 1478) (by decide +kernel)⟩
theorem lw_p71 : lw_okq (⟨"ReelChangeModel", "find", "()I"⟩, 43) := ⟨⟨by decide +kernel, by decide +kernel⟩, List.mem_of_getElem? (i := 1250) (by decide +kernel), List.mem_of_getElem? (i := 1491) (by decide +kernel), List.mem_of_getElem? (i := 1492) (by decide +kernel)⟩
theorem lw_p72 : lw_okq (⟨"ReelChangeModel", "townLine", "()V"⟩, 43) := ⟨⟨by decide +kernel, by decide +kernel⟩, List.mem_of_getElem? (i := 1250) (by decide +kernel), List.mem_of_getElem? (i := 1498) (by decide +kernel), List.mem_of_getElem? (i := 1499) (by decide +kernel)⟩
theorem lw_p73 : lw_okq (⟨"ReelChangeModel", "markLine", "()V"⟩, 43) := ⟨⟨by decide +kernel, by decide +kernel⟩, List.mem_of_getElem? (i := 1250) (by decide +kernel), List.mem_of_getElem? (i := 1503) (by decide +kernel), List.mem_of_getElem? (i := 1504) (by decide +kernel)⟩
theorem lw_p74 : lw_okq (⟨"ReelChangeModel", "reelPassed", "()I"⟩, 43) := ⟨⟨by decide +kernel, by decide +kernel⟩, List.mem_of_getElem? (i := 1250) (by decide +kernel), List.mem_of_getElem? (i := 1507) (by decide +kernel), List.mem_of_getElem? (i := 1508) (by decide +kernel)⟩
theorem lw_p75 : lw_okq (⟨"ReelChangeModel", "named", "(II)I"⟩, 43) := ⟨⟨by decide +kernel, by decide +kernel⟩, List.mem_of_getElem? (i := 1250) (by decide +kernel), List.mem_of_getElem? (i := 1511) (by decide +kernel), List.mem_of_getElem? (i := 1512) (by decide +kernel)⟩
theorem lw_p76 : lw_okq (⟨"ReelChangeModel", "frameOf", "(I)I"⟩, 43) := ⟨⟨by decide +kernel, by decide +kernel⟩, List.mem_of_getElem? (i := 1250) (by decide +kernel), List.mem_of_getElem? (i := 1515) (by decide +kernel), List.mem_of_getElem? (i := 1516) (by decide +kernel)⟩
theorem lw_p77 : lw_okq (⟨"ReelChangeModel", "joinLine", "()V"⟩, 43) := ⟨⟨by decide +kernel, by decide +kernel⟩, List.mem_of_getElem? (i := 1250) (by decide +kernel), List.mem_of_getElem? (i := 1519) (by decide +kernel), List.mem_of_getElem? (i := 1520) (by decide +kernel)⟩
theorem lw_p78 : lw_okq (⟨"ReelChangeModel", "weakLine", "()V"⟩, 43) := ⟨⟨by decide +kernel, by decide +kernel⟩, List.mem_of_getElem? (i := 1250) (by decide +kernel), List.mem_of_getElem? (i := 1524) (by decide +kernel), List.mem_of_getElem? (i := 1525) (by decide +kernel)⟩
theorem lw_p79 : lw_okq (⟨"ReelChangeModel", "manLine", "()V"⟩, 43) := ⟨⟨by decide +kernel, by decide +kernel⟩, List.mem_of_getElem? (i := 1250) (by decide +kernel), List.mem_of_getElem? (i := 1529) (by decide +kernel), List.mem_of_getElem? (i := 1530) (by decide +kernel)⟩
def lw_privs_5 : List (MethodName × Nat) := [(⟨"ReelChangeModel", "takesWord", "(Ljava/lang/String;)Z"⟩, 43), (⟨"ReelChangeModel", "number", "(II)I"⟩, 43), (⟨"ReelChangeModel", "numberHere", "(II)I"⟩, 43), (⟨"ReelChangeModel", "opens", "(Ljava/lang/String;Z)Z"⟩, 43), (⟨"ReelChangeModel", "reelLine", "()V"⟩, 43), (⟨"ReelChangeModel", "newName", "(I)V"⟩, 43), (⟨"ReelChangeModel", "mustName", "()V"⟩, 43), (⟨"ReelChangeModel", "find", "()I"⟩, 43), (⟨"ReelChangeModel", "townLine", "()V"⟩, 43), (⟨"ReelChangeModel", "markLine", "()V"⟩, 43), (⟨"ReelChangeModel", "reelPassed", "()I"⟩, 43), (⟨"ReelChangeModel", "named", "(II)I"⟩, 43), (⟨"ReelChangeModel", "frameOf", "(I)I"⟩, 43), (⟨"ReelChangeModel", "joinLine", "()V"⟩, 43), (⟨"ReelChangeModel", "weakLine", "()V"⟩, 43), (⟨"ReelChangeModel", "manLine", "()V"⟩, 43)]
theorem lw_r5 : ∀ q ∈ lw_privs_5, lw_okq q := List.forall_mem_cons.mpr ⟨lw_p64, List.forall_mem_cons.mpr ⟨lw_p65, List.forall_mem_cons.mpr ⟨lw_p66, List.forall_mem_cons.mpr ⟨lw_p67, List.forall_mem_cons.mpr ⟨lw_p68, List.forall_mem_cons.mpr ⟨lw_p69, List.forall_mem_cons.mpr ⟨lw_p70, List.forall_mem_cons.mpr ⟨lw_p71, List.forall_mem_cons.mpr ⟨lw_p72, List.forall_mem_cons.mpr ⟨lw_p73, List.forall_mem_cons.mpr ⟨lw_p74, List.forall_mem_cons.mpr ⟨lw_p75, List.forall_mem_cons.mpr ⟨lw_p76, List.forall_mem_cons.mpr ⟨lw_p77, List.forall_mem_cons.mpr ⟨lw_p78, List.forall_mem_cons.mpr ⟨lw_p79, fun _ h => absurd h List.not_mem_nil⟩⟩⟩⟩⟩⟩⟩⟩⟩⟩⟩⟩⟩⟩⟩⟩
theorem lw_p80 : lw_okq (⟨"ReelChangeModel", "opensOnce", "(Ljava/lang/String;Z)Z"⟩, 43) := ⟨⟨by decide +kernel, by decide +kernel⟩, List.mem_of_getElem? (i := 1250) (by decide +kernel), List.mem_of_getElem? (i := 1538) (by decide +kernel), List.mem_of_getElem? (i := 1539) (by decide +kernel)⟩
theorem lw_p81 : lw_okq (⟨"ReelChangeModel", "showsLine", "()V"⟩, 43) := ⟨⟨by decide +kernel, by decide +kernel⟩, List.mem_of_getElem? (i := 1250) (by decide +kernel), List.mem_of_getElem? (i := 1542) (by decide +kernel), List.mem_of_getElem? (i := 1543) (by decide +kernel)⟩
theorem lw_p82 : lw_okq (⟨"ReelChangeModel", "comma", "()Z"⟩, 43) := ⟨⟨by decide +kernel, by decide +kernel⟩, List.mem_of_getElem? (i := 1250) (by decide +kernel), List.mem_of_getElem? (i := 1546) (by decide +kernel), List.mem_of_getElem? (i := 1547) (by decide +kernel)⟩
theorem lw_p83 : lw_okq (⟨"ReelChangeModel", "boysLine", "()V"⟩, 43) := ⟨⟨by decide +kernel, by decide +kernel⟩, List.mem_of_getElem? (i := 1250) (by decide +kernel), List.mem_of_getElem? (i := 1550) (by decide +kernel), List.mem_of_getElem? (i := 1551) (by decide +kernel)⟩
theorem lw_p84 : lw_okq (⟨"ReelChangeModel", "seenLine", "()V"⟩, 43) := ⟨⟨by decide +kernel, by decide +kernel⟩, List.mem_of_getElem? (i := 1250) (by decide +kernel), List.mem_of_getElem? (i := 1556) (by decide +kernel), List.mem_of_getElem? (i := 1557) (by decide +kernel)⟩
theorem lw_p85 : lw_okq (⟨"ReelChangeModel", "scratchLine", "()V"⟩, 43) := ⟨⟨by decide +kernel, by decide +kernel⟩, List.mem_of_getElem? (i := 1250) (by decide +kernel), List.mem_of_getElem? (i := 1562) (by decide +kernel), List.mem_of_getElem? (i := 1563) (by decide +kernel)⟩
theorem lw_p86 : lw_okq (⟨"ReelChangeModel", "isReel", "(I)Z"⟩, 43) := ⟨⟨by decide +kernel, by decide +kernel⟩, List.mem_of_getElem? (i := 1250) (by decide +kernel), List.mem_of_getElem? (i := 1581) (by decide +kernel), List.mem_of_getElem? (i := 1582) (by decide +kernel)⟩
theorem lw_p87 : lw_okq (⟨"ReelChangeModel", "marksOf", "(I)I"⟩, 43) := ⟨⟨by decide +kernel, by decide +kernel⟩, List.mem_of_getElem? (i := 1250) (by decide +kernel), List.mem_of_getElem? (i := 1585) (by decide +kernel), List.mem_of_getElem? (i := 1586) (by decide +kernel)⟩
theorem lw_p88 : lw_okq (⟨"ReelChangeModel", "joinsOf", "(I)I"⟩, 43) := ⟨⟨by decide +kernel, by decide +kernel⟩, List.mem_of_getElem? (i := 1250) (by decide +kernel), List.mem_of_getElem? (i := 1589) (by decide +kernel), List.mem_of_getElem? (i := 1590) (by decide +kernel)⟩
theorem lw_p89 : lw_okq (⟨"ReelChangeModel", "isMended", "(I)Z"⟩, 43) := ⟨⟨by decide +kernel, by decide +kernel⟩, List.mem_of_getElem? (i := 1250) (by decide +kernel), List.mem_of_getElem? (i := 1593) (by decide +kernel), List.mem_of_getElem? (i := 1594) (by decide +kernel)⟩
theorem lw_p90 : lw_okq (⟨"ReelChangeModel", "weaksOf", "(I)I"⟩, 43) := ⟨⟨by decide +kernel, by decide +kernel⟩, List.mem_of_getElem? (i := 1250) (by decide +kernel), List.mem_of_getElem? (i := 1600) (by decide +kernel), List.mem_of_getElem? (i := 1601) (by decide +kernel)⟩
theorem lw_p91 : lw_okq (⟨"ReelChangeModel", "markOf", "(II)I"⟩, 43) := ⟨⟨by decide +kernel, by decide +kernel⟩, List.mem_of_getElem? (i := 1250) (by decide +kernel), List.mem_of_getElem? (i := 1608) (by decide +kernel), List.mem_of_getElem? (i := 1609) (by decide +kernel)⟩
theorem lw_p92 : lw_okq (⟨"ReelChangeModel", "isPlace", "(I)Z"⟩, 43) := ⟨⟨by decide +kernel, by decide +kernel⟩, List.mem_of_getElem? (i := 1250) (by decide +kernel), List.mem_of_getElem? (i := 1616) (by decide +kernel), List.mem_of_getElem? (i := 1617) (by decide +kernel)⟩
theorem lw_p93 : lw_okq (⟨"ReelChangeModel", "reelAt", "(I)I"⟩, 43) := ⟨⟨by decide +kernel, by decide +kernel⟩, List.mem_of_getElem? (i := 1250) (by decide +kernel), List.mem_of_getElem? (i := 1620) (by decide +kernel), List.mem_of_getElem? (i := 1621) (by decide +kernel)⟩
theorem lw_p94 : lw_okq (⟨"ReelChangeModel", "canTell", "(II)Z"⟩, 43) := ⟨⟨by decide +kernel, by decide +kernel⟩, List.mem_of_getElem? (i := 1250) (by decide +kernel), List.mem_of_getElem? (i := 1632) (by decide +kernel), List.mem_of_getElem? (i := 1633) (by decide +kernel)⟩
theorem lw_p95 : lw_okq (⟨"ReelChangeModel", "isMan", "(I)Z"⟩, 43) := ⟨⟨by decide +kernel, by decide +kernel⟩, List.mem_of_getElem? (i := 1250) (by decide +kernel), List.mem_of_getElem? (i := 1636) (by decide +kernel), List.mem_of_getElem? (i := 1637) (by decide +kernel)⟩
def lw_privs_6 : List (MethodName × Nat) := [(⟨"ReelChangeModel", "opensOnce", "(Ljava/lang/String;Z)Z"⟩, 43), (⟨"ReelChangeModel", "showsLine", "()V"⟩, 43), (⟨"ReelChangeModel", "comma", "()Z"⟩, 43), (⟨"ReelChangeModel", "boysLine", "()V"⟩, 43), (⟨"ReelChangeModel", "seenLine", "()V"⟩, 43), (⟨"ReelChangeModel", "scratchLine", "()V"⟩, 43), (⟨"ReelChangeModel", "isReel", "(I)Z"⟩, 43), (⟨"ReelChangeModel", "marksOf", "(I)I"⟩, 43), (⟨"ReelChangeModel", "joinsOf", "(I)I"⟩, 43), (⟨"ReelChangeModel", "isMended", "(I)Z"⟩, 43), (⟨"ReelChangeModel", "weaksOf", "(I)I"⟩, 43), (⟨"ReelChangeModel", "markOf", "(II)I"⟩, 43), (⟨"ReelChangeModel", "isPlace", "(I)Z"⟩, 43), (⟨"ReelChangeModel", "reelAt", "(I)I"⟩, 43), (⟨"ReelChangeModel", "canTell", "(II)Z"⟩, 43), (⟨"ReelChangeModel", "isMan", "(I)Z"⟩, 43)]
theorem lw_r6 : ∀ q ∈ lw_privs_6, lw_okq q := List.forall_mem_cons.mpr ⟨lw_p80, List.forall_mem_cons.mpr ⟨lw_p81, List.forall_mem_cons.mpr ⟨lw_p82, List.forall_mem_cons.mpr ⟨lw_p83, List.forall_mem_cons.mpr ⟨lw_p84, List.forall_mem_cons.mpr ⟨lw_p85, List.forall_mem_cons.mpr ⟨lw_p86, List.forall_mem_cons.mpr ⟨lw_p87, List.forall_mem_cons.mpr ⟨lw_p88, List.forall_mem_cons.mpr ⟨lw_p89, List.forall_mem_cons.mpr ⟨lw_p90, List.forall_mem_cons.mpr ⟨lw_p91, List.forall_mem_cons.mpr ⟨lw_p92, List.forall_mem_cons.mpr ⟨lw_p93, List.forall_mem_cons.mpr ⟨lw_p94, List.forall_mem_cons.mpr ⟨lw_p95, fun _ h => absurd h List.not_mem_nil⟩⟩⟩⟩⟩⟩⟩⟩⟩⟩⟩⟩⟩⟩⟩⟩
theorem lw_p96 : lw_okq (⟨"ReelChangeModel", "layTold", "(I)V"⟩, 43) := ⟨⟨by decide +kernel, by decide +kernel⟩, List.mem_of_getElem? (i := 1250) (by decide +kernel), List.mem_of_getElem? (i := 1640) (by decide +kernel), List.mem_of_getElem? (i := 1641) (by decide +kernel)⟩
theorem lw_p97 : lw_okq (⟨"ReelChangeModel", "layNight", "(I)V"⟩, 43) := ⟨⟨by decide +kernel, by decide +kernel⟩, List.mem_of_getElem? (i := 1250) (by decide +kernel), List.mem_of_getElem? (i := 1644) (by decide +kernel), List.mem_of_getElem? (i := 1645) (by decide +kernel)⟩
theorem lw_p98 : lw_okq (⟨"ReelChangeModel", "framesAt", "(I)I"⟩, 43) := ⟨⟨by decide +kernel, by decide +kernel⟩, List.mem_of_getElem? (i := 1250) (by decide +kernel), List.mem_of_getElem? (i := 1648) (by decide +kernel), List.mem_of_getElem? (i := 1649) (by decide +kernel)⟩
theorem lw_p99 : lw_okq (⟨"ReelChangeModel", "isGone", "(I)Z"⟩, 43) := ⟨⟨by decide +kernel, by decide +kernel⟩, List.mem_of_getElem? (i := 1250) (by decide +kernel), List.mem_of_getElem? (i := 1652) (by decide +kernel), List.mem_of_getElem? (i := 1653) (by decide +kernel)⟩
theorem lw_p100 : lw_okq (⟨"ReelChangeModel", "follows", "(IIIIZ)V"⟩, 43) := ⟨⟨by decide +kernel, by decide +kernel⟩, List.mem_of_getElem? (i := 1250) (by decide +kernel), List.mem_of_getElem? (i := 1656) (by decide +kernel), List.mem_of_getElem? (i := 1657) (by decide +kernel)⟩
theorem lw_p101 : lw_okq (⟨"ReelChangeModel", "believesOf", "(II)I"⟩, 43) := ⟨⟨by decide +kernel, by decide +kernel⟩, List.mem_of_getElem? (i := 1250) (by decide +kernel), List.mem_of_getElem? (i := 1660) (by decide +kernel), List.mem_of_getElem? (i := 1661) (by decide +kernel)⟩
theorem lw_p102 : lw_okq (⟨"ReelChangeModel", "tailOf", "(I)I"⟩, 43) := ⟨⟨by decide +kernel, by decide +kernel⟩, List.mem_of_getElem? (i := 1250) (by decide +kernel), List.mem_of_getElem? (i := 1690) (by decide +kernel), List.mem_of_getElem? (i := 1691) (by decide +kernel)⟩
theorem lw_p103 : lw_okq (⟨"ReelChangeModel", "sumOf", "(I)I"⟩, 43) := ⟨⟨by decide +kernel, by decide +kernel⟩, List.mem_of_getElem? (i := 1250) (by decide +kernel), List.mem_of_getElem? (i := 1706) (by decide +kernel), List.mem_of_getElem? (i := 1707) (by decide +kernel)⟩
theorem lw_p104 : lw_okq (⟨"ReelChangeModel", "needsOf", "(I)I"⟩, 43) := ⟨⟨by decide +kernel, by decide +kernel⟩, List.mem_of_getElem? (i := 1250) (by decide +kernel), List.mem_of_getElem? (i := 1722) (by decide +kernel), List.mem_of_getElem? (i := 1723) (by decide +kernel)⟩
theorem lw_p105 : lw_okq (⟨"ReelChangeModel", "burn", "(I)Z"⟩, 43) := ⟨⟨by decide +kernel, by decide +kernel⟩, List.mem_of_getElem? (i := 1250) (by decide +kernel), List.mem_of_getElem? (i := 1730) (by decide +kernel), List.mem_of_getElem? (i := 1731) (by decide +kernel)⟩
theorem lw_p106 : lw_okq (⟨"ReelChangeModel", "freeOf", "(I)I"⟩, 43) := ⟨⟨by decide +kernel, by decide +kernel⟩, List.mem_of_getElem? (i := 1250) (by decide +kernel), List.mem_of_getElem? (i := 1734) (by decide +kernel), List.mem_of_getElem? (i := 1735) (by decide +kernel)⟩
theorem lw_p107 : lw_okq (⟨"ReelChangeModel", "isDot", "(II)Z"⟩, 43) := ⟨⟨by decide +kernel, by decide +kernel⟩, List.mem_of_getElem? (i := 1250) (by decide +kernel), List.mem_of_getElem? (i := 1761) (by decide +kernel), List.mem_of_getElem? (i := 1762) (by decide +kernel)⟩
theorem lw_p108 : lw_okq (⟨"ReelChangeModel", "weightOf", "(II)J"⟩, 43) := ⟨⟨by decide +kernel, by decide +kernel⟩, List.mem_of_getElem? (i := 1250) (by decide +kernel), List.mem_of_getElem? (i := 1765) (by decide +kernel), List.mem_of_getElem? (i := 1766) (by decide +kernel)⟩
theorem lw_p109 : lw_okq (⟨"ReelChangeModel", "allWeights", "(I)J"⟩, 43) := ⟨⟨by decide +kernel, by decide +kernel⟩, List.mem_of_getElem? (i := 1250) (by decide +kernel), List.mem_of_getElem? (i := 1769) (by decide +kernel), List.mem_of_getElem? (i := 1770) (by decide +kernel)⟩
theorem lw_p110 : lw_okq (⟨"ReelChangeModel", "isWeak", "(I)Z"⟩, 43) := ⟨⟨by decide +kernel, by decide +kernel⟩, List.mem_of_getElem? (i := 1250) (by decide +kernel), List.mem_of_getElem? (i := 1792) (by decide +kernel), List.mem_of_getElem? (i := 1793) (by decide +kernel)⟩
theorem lw_p111 : lw_okq (⟨"ReelChangeModel", "signsOf", "(I)I"⟩, 43) := ⟨⟨by decide +kernel, by decide +kernel⟩, List.mem_of_getElem? (i := 1250) (by decide +kernel), List.mem_of_getElem? (i := 1813) (by decide +kernel), List.mem_of_getElem? (i := 1814) (by decide +kernel)⟩
def lw_privs_7 : List (MethodName × Nat) := [(⟨"ReelChangeModel", "layTold", "(I)V"⟩, 43), (⟨"ReelChangeModel", "layNight", "(I)V"⟩, 43), (⟨"ReelChangeModel", "framesAt", "(I)I"⟩, 43), (⟨"ReelChangeModel", "isGone", "(I)Z"⟩, 43), (⟨"ReelChangeModel", "follows", "(IIIIZ)V"⟩, 43), (⟨"ReelChangeModel", "believesOf", "(II)I"⟩, 43), (⟨"ReelChangeModel", "tailOf", "(I)I"⟩, 43), (⟨"ReelChangeModel", "sumOf", "(I)I"⟩, 43), (⟨"ReelChangeModel", "needsOf", "(I)I"⟩, 43), (⟨"ReelChangeModel", "burn", "(I)Z"⟩, 43), (⟨"ReelChangeModel", "freeOf", "(I)I"⟩, 43), (⟨"ReelChangeModel", "isDot", "(II)Z"⟩, 43), (⟨"ReelChangeModel", "weightOf", "(II)J"⟩, 43), (⟨"ReelChangeModel", "allWeights", "(I)J"⟩, 43), (⟨"ReelChangeModel", "isWeak", "(I)Z"⟩, 43), (⟨"ReelChangeModel", "signsOf", "(I)I"⟩, 43)]
theorem lw_r7 : ∀ q ∈ lw_privs_7, lw_okq q := List.forall_mem_cons.mpr ⟨lw_p96, List.forall_mem_cons.mpr ⟨lw_p97, List.forall_mem_cons.mpr ⟨lw_p98, List.forall_mem_cons.mpr ⟨lw_p99, List.forall_mem_cons.mpr ⟨lw_p100, List.forall_mem_cons.mpr ⟨lw_p101, List.forall_mem_cons.mpr ⟨lw_p102, List.forall_mem_cons.mpr ⟨lw_p103, List.forall_mem_cons.mpr ⟨lw_p104, List.forall_mem_cons.mpr ⟨lw_p105, List.forall_mem_cons.mpr ⟨lw_p106, List.forall_mem_cons.mpr ⟨lw_p107, List.forall_mem_cons.mpr ⟨lw_p108, List.forall_mem_cons.mpr ⟨lw_p109, List.forall_mem_cons.mpr ⟨lw_p110, List.forall_mem_cons.mpr ⟨lw_p111, fun _ h => absurd h List.not_mem_nil⟩⟩⟩⟩⟩⟩⟩⟩⟩⟩⟩⟩⟩⟩⟩⟩
theorem lw_p112 : lw_okq (⟨"ReelChangeModel", "bestSlipOf", "(I)I"⟩, 43) := ⟨⟨by decide +kernel, by decide +kernel⟩, List.mem_of_getElem? (i := 1250) (by decide +kernel), List.mem_of_getElem? (i := 1825) (by decide +kernel), List.mem_of_getElem? (i := 1826) (by decide +kernel)⟩
theorem lw_p113 : lw_okq (⟨"ReelChangeModel", "layScratch", "(I)Z"⟩, 43) := ⟨⟨by decide +kernel, by decide +kernel⟩, List.mem_of_getElem? (i := 1250) (by decide +kernel), List.mem_of_getElem? (i := 1837) (by decide +kernel), List.mem_of_getElem? (i := 1838) (by decide +kernel)⟩
theorem lw_p114 : lw_okq (⟨"ReelChangeModel", "farOf", "(II)I"⟩, 43) := ⟨⟨by decide +kernel, by decide +kernel⟩, List.mem_of_getElem? (i := 1250) (by decide +kernel), List.mem_of_getElem? (i := 1841) (by decide +kernel), List.mem_of_getElem? (i := 1842) (by decide +kernel)⟩
theorem lw_p115 : lw_okq (⟨"ReelChangeModel", "boyWhy", "(I)I"⟩, 43) := ⟨⟨by decide +kernel, by decide +kernel⟩, List.mem_of_getElem? (i := 1250) (by decide +kernel), List.mem_of_getElem? (i := 1853) (by decide +kernel), List.mem_of_getElem? (i := 1854) (by decide +kernel)⟩
theorem lw_p116 : lw_okq (⟨"ReelChangeModel", "apartOf", "(II)I"⟩, 43) := ⟨⟨by decide +kernel, by decide +kernel⟩, List.mem_of_getElem? (i := 1250) (by decide +kernel), List.mem_of_getElem? (i := 1857) (by decide +kernel), List.mem_of_getElem? (i := 1858) (by decide +kernel)⟩
theorem lw_p117 : lw_okq (⟨"ReelChangeModel", "carry", "(II)V"⟩, 43) := ⟨⟨by decide +kernel, by decide +kernel⟩, List.mem_of_getElem? (i := 1250) (by decide +kernel), List.mem_of_getElem? (i := 1861) (by decide +kernel), List.mem_of_getElem? (i := 1862) (by decide +kernel)⟩
theorem lw_p118 : lw_okq (⟨"ReelChangeModel", "laySorted", "()V"⟩, 43) := ⟨⟨by decide +kernel, by decide +kernel⟩, List.mem_of_getElem? (i := 1250) (by decide +kernel), List.mem_of_getElem? (i := 1885) (by decide +kernel), List.mem_of_getElem? (i := 1886) (by decide +kernel)⟩
theorem lw_p119 : lw_okq (⟨"ReelChangeModel", "isEven", "(I)Z"⟩, 43) := ⟨⟨by decide +kernel, by decide +kernel⟩, List.mem_of_getElem? (i := 1250) (by decide +kernel), List.mem_of_getElem? (i := 1889) (by decide +kernel), List.mem_of_getElem? (i := 1890) (by decide +kernel)⟩
theorem lw_p120 : lw_okq (⟨"ReelChangeModel", "drawNight", "(I)V"⟩, 43) := ⟨⟨by decide +kernel, by decide +kernel⟩, List.mem_of_getElem? (i := 1250) (by decide +kernel), List.mem_of_getElem? (i := 1898) (by decide +kernel), List.mem_of_getElem? (i := 1899) (by decide +kernel)⟩
theorem lw_p121 : lw_okq (⟨"ReelChangeModel", "drawn", "()I"⟩, 43) := ⟨⟨by decide +kernel, by decide +kernel⟩, List.mem_of_getElem? (i := 1250) (by decide +kernel), List.mem_of_getElem? (i := 1902) (by decide +kernel), List.mem_of_getElem? (i := 1903) (by decide +kernel)⟩
theorem lw_p122 : lw_okq (⟨"ReelChangeModel", "isNot", "(I)Z"⟩, 43) := ⟨⟨by decide +kernel, by decide +kernel⟩, List.mem_of_getElem? (i := 1250) (by decide +kernel), List.mem_of_getElem? (i := 1916) (by decide +kernel), List.mem_of_getElem? (i := 1917) (by decide +kernel)⟩
theorem lw_p123 : lw_okq (⟨"ReelChangeModel", "note", "()V"⟩, 43) := ⟨⟨by decide +kernel, by decide +kernel⟩, List.mem_of_getElem? (i := 1250) (by decide +kernel), List.mem_of_getElem? (i := 1920) (by decide +kernel), List.mem_of_getElem? (i := 1921) (by decide +kernel)⟩
def lw_privs_8 : List (MethodName × Nat) := [(⟨"ReelChangeModel", "bestSlipOf", "(I)I"⟩, 43), (⟨"ReelChangeModel", "layScratch", "(I)Z"⟩, 43), (⟨"ReelChangeModel", "farOf", "(II)I"⟩, 43), (⟨"ReelChangeModel", "boyWhy", "(I)I"⟩, 43), (⟨"ReelChangeModel", "apartOf", "(II)I"⟩, 43), (⟨"ReelChangeModel", "carry", "(II)V"⟩, 43), (⟨"ReelChangeModel", "laySorted", "()V"⟩, 43), (⟨"ReelChangeModel", "isEven", "(I)Z"⟩, 43), (⟨"ReelChangeModel", "drawNight", "(I)V"⟩, 43), (⟨"ReelChangeModel", "drawn", "()I"⟩, 43), (⟨"ReelChangeModel", "isNot", "(I)Z"⟩, 43), (⟨"ReelChangeModel", "note", "()V"⟩, 43)]
theorem lw_r8 : ∀ q ∈ lw_privs_8, lw_okq q := List.forall_mem_cons.mpr ⟨lw_p112, List.forall_mem_cons.mpr ⟨lw_p113, List.forall_mem_cons.mpr ⟨lw_p114, List.forall_mem_cons.mpr ⟨lw_p115, List.forall_mem_cons.mpr ⟨lw_p116, List.forall_mem_cons.mpr ⟨lw_p117, List.forall_mem_cons.mpr ⟨lw_p118, List.forall_mem_cons.mpr ⟨lw_p119, List.forall_mem_cons.mpr ⟨lw_p120, List.forall_mem_cons.mpr ⟨lw_p121, List.forall_mem_cons.mpr ⟨lw_p122, List.forall_mem_cons.mpr ⟨lw_p123, fun _ h => absurd h List.not_mem_nil⟩⟩⟩⟩⟩⟩⟩⟩⟩⟩⟩⟩
def lw_privs : List (MethodName × Nat) := lw_privs_1 ++ (lw_privs_2 ++ (lw_privs_3 ++ (lw_privs_4 ++ (lw_privs_5 ++ (lw_privs_6 ++ (lw_privs_7 ++ (lw_privs_8)))))))
def lw_tbl : List Cond := k2_sels lw_privs ++ tables_1
theorem lw_privs_ok : ∀ q ∈ lw_privs, lw_okq q := by
  show ∀ q ∈ lw_privs_1 ++ (lw_privs_2 ++ (lw_privs_3 ++ (lw_privs_4 ++ (lw_privs_5 ++ (lw_privs_6 ++ (lw_privs_7 ++ (lw_privs_8))))))), lw_okq q
  exact List.forall_mem_append.mpr ⟨lw_r1, List.forall_mem_append.mpr ⟨lw_r2, List.forall_mem_append.mpr ⟨lw_r3, List.forall_mem_append.mpr ⟨lw_r4, List.forall_mem_append.mpr ⟨lw_r5, List.forall_mem_append.mpr ⟨lw_r6, List.forall_mem_append.mpr ⟨lw_r7, lw_r8⟩⟩⟩⟩⟩⟩⟩
theorem goodIn_r {big : List Cond} (ws : List Cond) (ps : List Nat) (hp : ws = ps.filterMap (fun i => big[i]?)) (h : ws.all goodWord = true) : GoodIn big ws := by
  intro w hw
  have h1 := List.all_eq_true.mp h w hw
  rw [hp] at hw
  obtain ⟨i, -, hi⟩ := List.mem_filterMap.mp hw
  have hm : w ∈ big := by first | exact List.mem_of_getElem? hi | exact List.getElem?_mem hi
  exact ⟨hm, good_of_word h1⟩
theorem goodIn_app {big a b : List Cond} (ha : GoodIn big a) (hb : GoodIn big b) : GoodIn big (a ++ b) := fun w h => (List.mem_append.mp h).elim (ha w) (hb w)
theorem goodIn_ca {big a b : List Cond} {c : Cond} (ha : GoodIn big (c :: a)) (hb : GoodIn big b) : GoodIn big (c :: (a ++ b)) := fun w h => (List.mem_cons.mp h).elim (fun e => ha w (List.mem_cons.mpr (Or.inl e))) (fun h => (List.mem_append.mp h).elim (fun h => ha w (List.mem_cons.mpr (Or.inr h))) (hb w))
theorem goodIn_sub {big ws : List Cond} (hm : ∀ w ∈ ws, w ∈ big) (h : ws.all goodWord = true) : GoodIn big ws := fun w hw => ⟨hm w hw, good_of_word (List.all_eq_true.mp h w hw)⟩
def RX0 : String := "ReelChange$Arcs"
def TX0 : u_T := fun k => match k with
  | 0 => ("ReelChange$Arcs", "left", "LReelChange$Table;", true)
  | _ => ("ReelChange$Arcs", "dying", "I", false)
def tyX0 : Nat → FieldType := fun k => match k with
  | 0 => .object "ReelChange$Table"
  | _ => .int
abbrev wsX00 : List Cond := u_ws RX0 TX0 2
theorem nmX0 : ∀ a, a < 2 → ∀ b, b < 2 → a ≠ b → (TX0 a).2.1 ≠ (TX0 b).2.1 := by decide +kernel
theorem tyX0_ok : ∀ k, k < 2 → parseFieldDescriptor (TX0 k).2.2.1 = some (tyX0 k) := by decide +kernel
abbrev cX0_init : ByteArray := prog_2_method_1_code
def yX0_init : MethodName := ⟨RX0, "<init>", "()V"⟩
abbrev cX0_burn : ByteArray := prog_2_method_2_code
def yX0_burn : MethodName := ⟨RX0, "burn", "(LReelChange$House;LReelChange$Night;I)V"⟩
abbrev cX0_firstDying : ByteArray := prog_2_method_3_code
def yX0_firstDying : MethodName := ⟨RX0, "firstDying", "()I"⟩
abbrev cX0_fewestTrims : ByteArray := prog_2_method_4_code
def yX0_fewestTrims : MethodName := ⟨RX0, "fewestTrims", "(LReelChange$House;LReelChange$Night;)I"⟩
def RX1 : String := "ReelChange$Exchanger"
def TX1 : u_T := fun k => match k with
  | 0 => ("ReelChange$Exchanger", "inOrder", "LReelChange$Table;", true)
  | 1 => ("ReelChange$Exchanger", "parts", "LReelChange$Table;", true)
  | _ => ("ReelChange$Exchanger", "surplus", "[J", true)
def tyX1 : Nat → FieldType := fun k => match k with
  | 0 => .object "ReelChange$Table"
  | 1 => .object "ReelChange$Table"
  | _ => .array .long
abbrev wsX10 : List Cond := u_ws RX1 TX1 3
theorem nmX1 : ∀ a, a < 3 → ∀ b, b < 3 → a ≠ b → (TX1 a).2.1 ≠ (TX1 b).2.1 := by decide +kernel
theorem tyX1_ok : ∀ k, k < 3 → parseFieldDescriptor (TX1 k).2.2.1 = some (tyX1 k) := by decide +kernel
abbrev cX1_init : ByteArray := prog_3_method_1_code
def yX1_init : MethodName := ⟨RX1, "<init>", "()V"⟩
abbrev cX1_wrongPlaces : ByteArray := prog_3_method_2_code
def yX1_wrongPlaces : MethodName := ⟨RX1, "wrongPlaces", "(LReelChange$State;)I"⟩
abbrev cX1_fewest : ByteArray := prog_3_method_3_code
def yX1_fewest : MethodName := ⟨RX1, "fewest", "(LReelChange$State;)I"⟩
abbrev cX1_sort : ByteArray := prog_3_method_4_code
def yX1_sort : MethodName := ⟨RX1, "sort", "(LReelChange$State;)V"⟩
abbrev cX1_weigh : ByteArray := prog_3_method_5_code
def yX1_weigh : MethodName := ⟨RX1, "weigh", "(LReelChange$State;)V"⟩
abbrev cX1_unit : ByteArray := prog_3_method_6_code
def yX1_unit : MethodName := ⟨RX1, "unit", "(I)J"⟩
def RX2 : String := "ReelChange$Fraction"
def TX2 : u_T := fun k => match k with
  | 0 => ("ReelChange$Fraction", "upper", "J", false)
  | _ => ("ReelChange$Fraction", "lower", "J", false)
def tyX2 : Nat → FieldType := fun k => match k with
  | 0 => .long
  | _ => .long
abbrev wsX20 : List Cond := u_ws RX2 TX2 2
theorem nmX2 : ∀ a, a < 2 → ∀ b, b < 2 → a ≠ b → (TX2 a).2.1 ≠ (TX2 b).2.1 := by decide +kernel
theorem tyX2_ok : ∀ k, k < 2 → parseFieldDescriptor (TX2 k).2.2.1 = some (tyX2 k) := by decide +kernel
abbrev cX2_init : ByteArray := prog_4_method_1_code
def yX2_init : MethodName := ⟨RX2, "<init>", "()V"⟩
abbrev cX2_set : ByteArray := prog_4_method_2_code
def yX2_set : MethodName := ⟨RX2, "set", "(JJ)V"⟩
abbrev cX2_setPower : ByteArray := prog_4_method_3_code
def yX2_setPower : MethodName := ⟨RX2, "setPower", "(III)V"⟩
abbrev cX2_reduce : ByteArray := prog_4_method_4_code
def yX2_reduce : MethodName := ⟨RX2, "reduce", "()V"⟩
def RX3 : String := "ReelChange$House"
def TX3 : u_T := fun k => match k with
  | 0 => ("ReelChange$House", "atFirst", "LReelChange$State;", true)
  | 1 => ("ReelChange$House", "numbers", "LReelChange$Table;", true)
  | 2 => ("ReelChange$House", "towns", "LReelChange$Table;", true)
  | 3 => ("ReelChange$House", "joins", "LReelChange$Table;", true)
  | 4 => ("ReelChange$House", "men", "LReelChange$Table;", true)
  | 5 => ("ReelChange$House", "boys", "LReelChange$Table;", true)
  | 6 => ("ReelChange$House", "signs", "LReelChange$Table;", true)
  | _ => ("ReelChange$House", "scratches", "LReelChange$Table;", true)
def tyX3 : Nat → FieldType := fun k => match k with
  | 0 => .object "ReelChange$State"
  | 1 => .object "ReelChange$Table"
  | 2 => .object "ReelChange$Table"
  | 3 => .object "ReelChange$Table"
  | 4 => .object "ReelChange$Table"
  | 5 => .object "ReelChange$Table"
  | 6 => .object "ReelChange$Table"
  | _ => .object "ReelChange$Table"
abbrev wsX30 : List Cond := u_ws RX3 TX3 8
theorem nmX3 : ∀ a, a < 8 → ∀ b, b < 8 → a ≠ b → (TX3 a).2.1 ≠ (TX3 b).2.1 := by decide +kernel
theorem tyX3_ok : ∀ k, k < 8 → parseFieldDescriptor (TX3 k).2.2.1 = some (tyX3 k) := by decide +kernel
abbrev cX3_init : ByteArray := prog_5_method_1_code
def yX3_init : MethodName := ⟨RX3, "<init>", "()V"⟩
abbrev cX3_number : ByteArray := prog_5_method_2_code
def yX3_number : MethodName := ⟨RX3, "number", "(I)I"⟩
abbrev cX3_clear : ByteArray := prog_5_method_3_code
def yX3_clear : MethodName := ⟨RX3, "clear", "()V"⟩
abbrev cX3_copyFrom : ByteArray := prog_5_method_4_code
def yX3_copyFrom : MethodName := ⟨RX3, "copyFrom", "(LReelChange$House;)V"⟩
def RX4 : String := "ReelChange$Kept"
def TX4 : u_T := fun k => match k with
  | 0 => ("ReelChange$Kept", "ahead", "[LReelChange$State;", true)
  | 1 => ("ReelChange$Kept", "images", "[LReelChange$State;", true)
  | 2 => ("ReelChange$Kept", "acts", "I", false)
  | 3 => ("ReelChange$Kept", "next", "I", false)
  | _ => ("ReelChange$Kept", "imaged", "I", false)
def tyX4 : Nat → FieldType := fun k => match k with
  | 0 => .array (.object "ReelChange$State")
  | 1 => .array (.object "ReelChange$State")
  | 2 => .int
  | 3 => .int
  | _ => .int
abbrev wsX40 : List Cond := u_ws RX4 TX4 5
theorem nmX4 : ∀ a, a < 5 → ∀ b, b < 5 → a ≠ b → (TX4 a).2.1 ≠ (TX4 b).2.1 := by decide +kernel
theorem tyX4_ok : ∀ k, k < 5 → parseFieldDescriptor (TX4 k).2.2.1 = some (tyX4 k) := by decide +kernel
abbrev cX4_init : ByteArray := prog_6_method_1_code
def yX4_init : MethodName := ⟨RX4, "<init>", "()V"⟩
abbrev cX4_forget : ByteArray := prog_6_method_2_code
def yX4_forget : MethodName := ⟨RX4, "forget", "()V"⟩
abbrev cX4_keep : ByteArray := prog_6_method_3_code
def yX4_keep : MethodName := ⟨RX4, "keep", "(LReelChange$State;)V"⟩
abbrev cX4_takeBack : ByteArray := prog_6_method_4_code
def yX4_takeBack : MethodName := ⟨RX4, "takeBack", "(LReelChange$State;)Z"⟩
abbrev cX4_takeImage : ByteArray := prog_6_method_5_code
def yX4_takeImage : MethodName := ⟨RX4, "takeImage", "(LReelChange$State;)I"⟩
abbrev cX4_goBack : ByteArray := prog_6_method_6_code
def yX4_goBack : MethodName := ⟨RX4, "goBack", "(ILReelChange$State;)Z"⟩
abbrev cX4_slot : ByteArray := prog_6_method_7_code
def yX4_slot : MethodName := ⟨RX4, "slot", "([LReelChange$State;I)LReelChange$State;"⟩
def RX5 : String := "ReelChange$Night"
def TX5 : u_T := fun k => match k with
  | 0 => ("ReelChange$Night", "rows", "LReelChange$Table;", true)
  | 1 => ("ReelChange$Night", "snapped", "I", false)
  | 2 => ("ReelChange$Night", "mostSlip", "I", false)
  | 3 => ("ReelChange$Night", "slip", "I", false)
  | 4 => ("ReelChange$Night", "isDrawn", "Z", false)
  | 5 => ("ReelChange$Night", "seed", "I", false)
  | 6 => ("ReelChange$Night", "tick", "I", false)
  | 7 => ("ReelChange$Night", "motorTick", "I", false)
  | _ => ("ReelChange$Night", "ahead", "I", false)
def tyX5 : Nat → FieldType := fun k => match k with
  | 0 => .object "ReelChange$Table"
  | 1 => .int
  | 2 => .int
  | 3 => .int
  | 4 => .boolean
  | 5 => .int
  | 6 => .int
  | 7 => .int
  | _ => .int
abbrev wsX50 : List Cond := u_ws RX5 TX5 9
theorem nmX5 : ∀ a, a < 9 → ∀ b, b < 9 → a ≠ b → (TX5 a).2.1 ≠ (TX5 b).2.1 := by decide +kernel
theorem tyX5_ok : ∀ k, k < 9 → parseFieldDescriptor (TX5 k).2.2.1 = some (tyX5 k) := by decide +kernel
abbrev cX5_init : ByteArray := prog_7_method_1_code
def yX5_init : MethodName := ⟨RX5, "<init>", "()V"⟩
abbrev cX5_meet : ByteArray := prog_7_method_2_code
def yX5_meet : MethodName := ⟨RX5, "meet", "(LReelChange$House;LReelChange$State;I)V"⟩
abbrev cX5_slipBy : ByteArray := prog_7_method_3_code
def yX5_slipBy : MethodName := ⟨RX5, "slipBy", "(I)V"⟩
abbrev cX5_drawBy : ByteArray := prog_7_method_4_code
def yX5_drawBy : MethodName := ⟨RX5, "drawBy", "(I)V"⟩
abbrev cX5_run : ByteArray := prog_7_method_5_code
def yX5_run : MethodName := ⟨RX5, "run", "(LReelChange$House;LReelChange$State;)V"⟩
abbrev cX5_goBy : ByteArray := prog_7_method_6_code
def yX5_goBy : MethodName := ⟨RX5, "goBy", "(II)V"⟩
abbrev cX5_showReel : ByteArray := prog_7_method_7_code
def yX5_showReel : MethodName := ⟨RX5, "showReel", "(LReelChange$House;LReelChange$State;II)V"⟩
abbrev cX5_slipNow : ByteArray := prog_7_method_8_code
def yX5_slipNow : MethodName := ⟨RX5, "slipNow", "()I"⟩
abbrev cX5_snapWeakPlaces : ByteArray := prog_7_method_9_code
def yX5_snapWeakPlaces : MethodName := ⟨RX5, "snapWeakPlaces", "(LReelChange$House;LReelChange$State;I)V"⟩
abbrev cX5_draw : ByteArray := prog_7_method_10_code
def yX5_draw : MethodName := ⟨RX5, "draw", "()I"⟩
abbrev cX5_sum : ByteArray := prog_7_method_11_code
def yX5_sum : MethodName := ⟨RX5, "sum", "(I)I"⟩
abbrev cX5_waste : ByteArray := prog_7_method_12_code
def yX5_waste : MethodName := ⟨RX5, "waste", "()I"⟩
abbrev cX5_endTick : ByteArray := prog_7_method_13_code
def yX5_endTick : MethodName := ⟨RX5, "endTick", "()I"⟩
abbrev cX5_worstChange : ByteArray := prog_7_method_14_code
def yX5_worstChange : MethodName := ⟨RX5, "worstChange", "()I"⟩
abbrev cX5_exactThread : ByteArray := prog_7_method_15_code
def yX5_exactThread : MethodName := ⟨RX5, "exactThread", "(LReelChange$House;I)I"⟩
abbrev cX5_signsSo : ByteArray := prog_7_method_16_code
def yX5_signsSo : MethodName := ⟨RX5, "signsSo", "(LReelChange$House;)I"⟩
abbrev cX5_needed : ByteArray := prog_7_method_17_code
def yX5_needed : MethodName := ⟨RX5, "needed", "(I)I"⟩
abbrev cX5_idle : ByteArray := prog_7_method_18_code
def yX5_idle : MethodName := ⟨RX5, "idle", "(I)I"⟩
def RX6 : String := "ReelChange$Riders"
def TX6 : u_T := fun k => match k with
  | 0 => ("ReelChange$Riders", "backAt", "LReelChange$Table;", true)
  | 1 => ("ReelChange$Riders", "apartNeeded", "I", false)
  | _ => ("ReelChange$Riders", "waited", "I", false)
def tyX6 : Nat → FieldType := fun k => match k with
  | 0 => .object "ReelChange$Table"
  | 1 => .int
  | _ => .int
abbrev wsX60 : List Cond := u_ws RX6 TX6 3
theorem nmX6 : ∀ a, a < 3 → ∀ b, b < 3 → a ≠ b → (TX6 a).2.1 ≠ (TX6 b).2.1 := by decide +kernel
theorem tyX6_ok : ∀ k, k < 3 → parseFieldDescriptor (TX6 k).2.2.1 = some (tyX6 k) := by decide +kernel
abbrev cX6_init : ByteArray := prog_8_method_1_code
def yX6_init : MethodName := ⟨RX6, "<init>", "()V"⟩
abbrev cX6_carry : ByteArray := prog_8_method_2_code
def yX6_carry : MethodName := ⟨RX6, "carry", "(LReelChange$Night;III)V"⟩
abbrev cX6_soonestBack : ByteArray := prog_8_method_3_code
def yX6_soonestBack : MethodName := ⟨RX6, "soonestBack", "(I)I"⟩
def RX7 : String := "ReelChange$State"
def TX7 : u_T := fun k => match k with
  | 0 => ("ReelChange$State", "reels", "LReelChange$Table;", true)
  | 1 => ("ReelChange$State", "marks", "LReelChange$Table;", true)
  | 2 => ("ReelChange$State", "weaks", "LReelChange$Table;", true)
  | 3 => ("ReelChange$State", "places", "LReelChange$Table;", true)
  | 4 => ("ReelChange$State", "mended", "I", false)
  | _ => ("ReelChange$State", "trims", "I", false)
def tyX7 : Nat → FieldType := fun k => match k with
  | 0 => .object "ReelChange$Table"
  | 1 => .object "ReelChange$Table"
  | 2 => .object "ReelChange$Table"
  | 3 => .object "ReelChange$Table"
  | 4 => .int
  | _ => .int
abbrev wsX70 : List Cond := u_ws RX7 TX7 6
theorem nmX7 : ∀ a, a < 6 → ∀ b, b < 6 → a ≠ b → (TX7 a).2.1 ≠ (TX7 b).2.1 := by decide +kernel
theorem tyX7_ok : ∀ k, k < 6 → parseFieldDescriptor (TX7 k).2.2.1 = some (tyX7 k) := by decide +kernel
abbrev cX7_init : ByteArray := prog_9_method_1_code
def yX7_init : MethodName := ⟨RX7, "<init>", "()V"⟩
abbrev cX7_clear : ByteArray := prog_9_method_2_code
def yX7_clear : MethodName := ⟨RX7, "clear", "()V"⟩
abbrev cX7_copyFrom : ByteArray := prog_9_method_3_code
def yX7_copyFrom : MethodName := ⟨RX7, "copyFrom", "(LReelChange$State;)V"⟩
abbrev cX7_reelAt : ByteArray := prog_9_method_4_code
def yX7_reelAt : MethodName := ⟨RX7, "reelAt", "(I)I"⟩
abbrev cX7_isWeak : ByteArray := prog_9_method_5_code
def yX7_isWeak : MethodName := ⟨RX7, "isWeak", "(I)Z"⟩
abbrev cX7_mendedOn : ByteArray := prog_9_method_6_code
def yX7_mendedOn : MethodName := ⟨RX7, "mendedOn", "(I)I"⟩
abbrev cX7_markBy : ByteArray := prog_9_method_7_code
def yX7_markBy : MethodName := ⟨RX7, "markBy", "(II)I"⟩
abbrev cX7_believedBy : ByteArray := prog_9_method_8_code
def yX7_believedBy : MethodName := ⟨RX7, "believedBy", "(LReelChange$Table;II)I"⟩
abbrev cX7_isMeantPerhaps : ByteArray := prog_9_method_9_code
def yX7_isMeantPerhaps : MethodName := ⟨RX7, "isMeantPerhaps", "(II)Z"⟩
abbrev cX7_isMarked : ByteArray := prog_9_method_10_code
def yX7_isMarked : MethodName := ⟨RX7, "isMarked", "(III)Z"⟩
abbrev cX7_weight : ByteArray := prog_9_method_11_code
def yX7_weight : MethodName := ⟨RX7, "weight", "(LReelChange$Table;II)I"⟩
abbrev cX7_allWeights : ByteArray := prog_9_method_12_code
def yX7_allWeights : MethodName := ⟨RX7, "allWeights", "(LReelChange$Table;I)I"⟩
abbrev cX7_likeliestFrame : ByteArray := prog_9_method_13_code
def yX7_likeliestFrame : MethodName := ⟨RX7, "likeliestFrame", "(LReelChange$Table;I)I"⟩
abbrev cX7_cutOut : ByteArray := prog_9_method_14_code
def yX7_cutOut : MethodName := ⟨RX7, "cutOut", "(I)V"⟩
abbrev cX7_pull : ByteArray := prog_9_method_15_code
def yX7_pull : MethodName := ⟨RX7, "pull", "(LReelChange$Table;III)V"⟩
abbrev cX7_sooner : ByteArray := prog_9_method_16_code
def yX7_sooner : MethodName := ⟨RX7, "sooner", "(III)I"⟩
def RX8 : String := "ReelChange$Table"
def TX8 : u_T := fun k => match k with
  | 0 => ("ReelChange$Table", "room", "I", true)
  | 1 => ("ReelChange$Table", "width", "I", true)
  | 2 => ("ReelChange$Table", "cells", "[I", true)
  | _ => ("ReelChange$Table", "count", "I", false)
def tyX8 : Nat → FieldType := fun k => match k with
  | 0 => .int
  | 1 => .int
  | 2 => .array .int
  | _ => .int
abbrev wsX80 : List Cond := u_ws RX8 TX8 4
theorem nmX8 : ∀ a, a < 4 → ∀ b, b < 4 → a ≠ b → (TX8 a).2.1 ≠ (TX8 b).2.1 := by decide +kernel
theorem tyX8_ok : ∀ k, k < 4 → parseFieldDescriptor (TX8 k).2.2.1 = some (tyX8 k) := by decide +kernel
abbrev cX8_init : ByteArray := prog_10_method_1_code
def yX8_init : MethodName := ⟨RX8, "<init>", "(II)V"⟩
abbrev cX8_has : ByteArray := prog_10_method_2_code
def yX8_has : MethodName := ⟨RX8, "has", "(I)Z"⟩
abbrev cX8_isFull : ByteArray := prog_10_method_3_code
def yX8_isFull : MethodName := ⟨RX8, "isFull", "()Z"⟩
abbrev cX8_clear : ByteArray := prog_10_method_4_code
def yX8_clear : MethodName := ⟨RX8, "clear", "()V"⟩
abbrev cX8_at : ByteArray := prog_10_method_5_code
def yX8_at : MethodName := ⟨RX8, "at", "(II)I"⟩
abbrev cX8_put : ByteArray := prog_10_method_6_code
def yX8_put : MethodName := ⟨RX8, "put", "(III)V"⟩
abbrev cX8_add : ByteArray := prog_10_method_7_code
def yX8_add : MethodName := ⟨RX8, "add", "(III)V"⟩
abbrev cX8_howMany : ByteArray := prog_10_method_8_code
def yX8_howMany : MethodName := ⟨RX8, "howMany", "(II)I"⟩
abbrev cX8_copyFrom : ByteArray := prog_10_method_9_code
def yX8_copyFrom : MethodName := ⟨RX8, "copyFrom", "(LReelChange$Table;)V"⟩
def RX9 : String := "ReelChange$Text"
def TX9 : u_T := fun k => match k with
  | 0 => ("ReelChange$Text", "taped", "I", false)
  | 1 => ("ReelChange$Text", "house", "LReelChange$House;", true)
  | 2 => ("ReelChange$Text", "faultNumber", "I", false)
  | 3 => ("ReelChange$Text", "faultPlace", "I", false)
  | 4 => ("ReelChange$Text", "tape", "[B", true)
  | 5 => ("ReelChange$Text", "end", "I", false)
  | 6 => ("ReelChange$Text", "names", "[J", true)
  | 7 => ("ReelChange$Text", "named", "LReelChange$Table;", true)
  | 8 => ("ReelChange$Text", "kind", "I", false)
  | 9 => ("ReelChange$Text", "start", "I", false)
  | 10 => ("ReelChange$Text", "position", "I", false)
  | 11 => ("ReelChange$Text", "value", "I", false)
  | 12 => ("ReelChange$Text", "letters", "J", false)
  | 13 => ("ReelChange$Text", "taken", "I", false)
  | _ => ("ReelChange$Text", "takenAt", "I", false)
def tyX9 : Nat → FieldType := fun k => match k with
  | 0 => .int
  | 1 => .object "ReelChange$House"
  | 2 => .int
  | 3 => .int
  | 4 => .array .byte
  | 5 => .int
  | 6 => .array .long
  | 7 => .object "ReelChange$Table"
  | 8 => .int
  | 9 => .int
  | 10 => .int
  | 11 => .int
  | 12 => .long
  | 13 => .int
  | _ => .int
abbrev wsX90 : List Cond := u_ws RX9 TX9 15
theorem nmX9 : ∀ a, a < 15 → ∀ b, b < 15 → a ≠ b → (TX9 a).2.1 ≠ (TX9 b).2.1 := by decide +kernel
theorem tyX9_ok : ∀ k, k < 15 → parseFieldDescriptor (TX9 k).2.2.1 = some (tyX9 k) := by decide +kernel
abbrev cX9_init : ByteArray := prog_11_method_1_code
def yX9_init : MethodName := ⟨RX9, "<init>", "()V"⟩
abbrev cX9_write : ByteArray := prog_11_method_2_code
def yX9_write : MethodName := ⟨RX9, "write", "(I)V"⟩
abbrev cX9_read : ByteArray := prog_11_method_3_code
def yX9_read : MethodName := ⟨RX9, "read", "(I)V"⟩
abbrev cX9_isFollowed : ByteArray := prog_11_method_4_code
def yX9_isFollowed : MethodName := ⟨RX9, "isFollowed", "()Z"⟩
abbrev cX9_refuseAt : ByteArray := prog_11_method_5_code
def yX9_refuseAt : MethodName := ⟨RX9, "refuseAt", "(II)Z"⟩
abbrev cX9_isLine : ByteArray := prog_11_method_6_code
def yX9_isLine : MethodName := ⟨RX9, "isLine", "()Z"⟩
abbrev cX9_isHouseLine : ByteArray := prog_11_method_7_code
def yX9_isHouseLine : MethodName := ⟨RX9, "isHouseLine", "()Z"⟩
abbrev cX9_isNumber : ByteArray := prog_11_method_8_code
def yX9_isNumber : MethodName := ⟨RX9, "isNumber", "(Ljava/lang/String;III)Z"⟩
abbrev cX9_isReelLine : ByteArray := prog_11_method_9_code
def yX9_isReelLine : MethodName := ⟨RX9, "isReelLine", "()Z"⟩
abbrev cX9_isTownLine : ByteArray := prog_11_method_10_code
def yX9_isTownLine : MethodName := ⟨RX9, "isTownLine", "()Z"⟩
abbrev cX9_isMarkLine : ByteArray := prog_11_method_11_code
def yX9_isMarkLine : MethodName := ⟨RX9, "isMarkLine", "()Z"⟩
abbrev cX9_isJoinLine : ByteArray := prog_11_method_12_code
def yX9_isJoinLine : MethodName := ⟨RX9, "isJoinLine", "()Z"⟩
abbrev cX9_isWeakLine : ByteArray := prog_11_method_13_code
def yX9_isWeakLine : MethodName := ⟨RX9, "isWeakLine", "()Z"⟩
abbrev cX9_isManLine : ByteArray := prog_11_method_14_code
def yX9_isManLine : MethodName := ⟨RX9, "isManLine", "()Z"⟩
abbrev cX9_kindOfMan : ByteArray := prog_11_method_15_code
def yX9_kindOfMan : MethodName := ⟨RX9, "kindOfMan", "()I"⟩
abbrev cX9_isShowsLine : ByteArray := prog_11_method_16_code
def yX9_isShowsLine : MethodName := ⟨RX9, "isShowsLine", "()Z"⟩
abbrev cX9_isBoysLine : ByteArray := prog_11_method_17_code
def yX9_isBoysLine : MethodName := ⟨RX9, "isBoysLine", "()Z"⟩
abbrev cX9_isSeenLine : ByteArray := prog_11_method_18_code
def yX9_isSeenLine : MethodName := ⟨RX9, "isSeenLine", "()Z"⟩
abbrev cX9_isScratchLine : ByteArray := prog_11_method_19_code
def yX9_isScratchLine : MethodName := ⟨RX9, "isScratchLine", "()Z"⟩
abbrev cX9_hasRoom : ByteArray := prog_11_method_20_code
def yX9_hasRoom : MethodName := ⟨RX9, "hasRoom", "(LReelChange$Table;)Z"⟩
abbrev cX9_isLabel : ByteArray := prog_11_method_21_code
def yX9_isLabel : MethodName := ⟨RX9, "isLabel", "(Ljava/lang/String;)Z"⟩
abbrev cX9_lastFrame : ByteArray := prog_11_method_22_code
def yX9_lastFrame : MethodName := ⟨RX9, "lastFrame", "(I)I"⟩
abbrev cX9_isWhole : ByteArray := prog_11_method_23_code
def yX9_isWhole : MethodName := ⟨RX9, "isWhole", "(II)Z"⟩
abbrev cX9_isNewName : ByteArray := prog_11_method_24_code
def yX9_isNewName : MethodName := ⟨RX9, "isNewName", "(II)Z"⟩
abbrev cX9_isOldName : ByteArray := prog_11_method_25_code
def yX9_isOldName : MethodName := ⟨RX9, "isOldName", "(I)Z"⟩
abbrev cX9_findName : ByteArray := prog_11_method_26_code
def yX9_findName : MethodName := ⟨RX9, "findName", "()I"⟩
abbrev cX9_isReserved : ByteArray := prog_11_method_27_code
def yX9_isReserved : MethodName := ⟨RX9, "isReserved", "()Z"⟩
abbrev cX9_is : ByteArray := prog_11_method_28_code
def yX9_is : MethodName := ⟨RX9, "is", "(Ljava/lang/String;)Z"⟩
abbrev cX9_next : ByteArray := prog_11_method_29_code
def yX9_next : MethodName := ⟨RX9, "next", "()V"⟩
abbrev cX9_kindAt : ByteArray := prog_11_method_30_code
def yX9_kindAt : MethodName := ⟨RX9, "kindAt", "(I)I"⟩
def RX10 : String := "ReelChange"
def TX10 : u_T := fun k => match k with
  | 0 => ("ReelChange", "text", "LReelChange$Text;", true)
  | 1 => ("ReelChange", "told", "LReelChange$House;", true)
  | 2 => ("ReelChange", "now", "LReelChange$State;", true)
  | 3 => ("ReelChange", "kept", "LReelChange$Kept;", true)
  | 4 => ("ReelChange", "night", "LReelChange$Night;", true)
  | 5 => ("ReelChange", "arcs", "LReelChange$Arcs;", true)
  | 6 => ("ReelChange", "riders", "LReelChange$Riders;", true)
  | 7 => ("ReelChange", "exchanger", "LReelChange$Exchanger;", true)
  | 8 => ("ReelChange", "fraction", "LReelChange$Fraction;", true)
  | _ => ("ReelChange", "latestTrouble", "I", false)
def tyX10 : Nat → FieldType := fun k => match k with
  | 0 => .object "ReelChange$Text"
  | 1 => .object "ReelChange$House"
  | 2 => .object "ReelChange$State"
  | 3 => .object "ReelChange$Kept"
  | 4 => .object "ReelChange$Night"
  | 5 => .object "ReelChange$Arcs"
  | 6 => .object "ReelChange$Riders"
  | 7 => .object "ReelChange$Exchanger"
  | 8 => .object "ReelChange$Fraction"
  | _ => .int
abbrev wsX100 : List Cond := u_ws RX10 TX10 10
theorem nmX10 : ∀ a, a < 10 → ∀ b, b < 10 → a ≠ b → (TX10 a).2.1 ≠ (TX10 b).2.1 := by decide +kernel
theorem tyX10_ok : ∀ k, k < 10 → parseFieldDescriptor (TX10 k).2.2.1 = some (tyX10 k) := by decide +kernel
abbrev cX10_init : ByteArray := prog_1_method_1_code
def yX10_init : MethodName := ⟨RX10, "<init>", "()V"⟩
abbrev cX10_feed : ByteArray := prog_1_method_2_code
def yX10_feed : MethodName := ⟨RX10, "feed", "(IIIII)I"⟩
abbrev cX10_house : ByteArray := prog_1_method_3_code
def yX10_house : MethodName := ⟨RX10, "house", "(I)I"⟩
abbrev cX10_fault : ByteArray := prog_1_method_4_code
def yX10_fault : MethodName := ⟨RX10, "fault", "()I"⟩
abbrev cX10_where : ByteArray := prog_1_method_5_code
def yX10_where : MethodName := ⟨RX10, "where", "()I"⟩
abbrev cX10_reel : ByteArray := prog_1_method_6_code
def yX10_reel : MethodName := ⟨RX10, "reel", "(II)I"⟩
abbrev cX10_mark : ByteArray := prog_1_method_7_code
def yX10_mark : MethodName := ⟨RX10, "mark", "(II)I"⟩
abbrev cX10_shows : ByteArray := prog_1_method_8_code
def yX10_shows : MethodName := ⟨RX10, "shows", "(I)I"⟩
abbrev cX10_thread : ByteArray := prog_1_method_9_code
def yX10_thread : MethodName := ⟨RX10, "thread", "(I)I"⟩
abbrev cX10_believes : ByteArray := prog_1_method_10_code
def yX10_believes : MethodName := ⟨RX10, "believes", "(II)I"⟩
abbrev cX10_starts : ByteArray := prog_1_method_11_code
def yX10_starts : MethodName := ⟨RX10, "starts", "(II)I"⟩
abbrev cX10_changes : ByteArray := prog_1_method_12_code
def yX10_changes : MethodName := ⟨RX10, "changes", "(II)I"⟩
abbrev cX10_lost : ByteArray := prog_1_method_13_code
def yX10_lost : MethodName := ⟨RX10, "lost", "(II)I"⟩
abbrev cX10_black : ByteArray := prog_1_method_14_code
def yX10_black : MethodName := ⟨RX10, "black", "(II)I"⟩
abbrev cX10_tail : ByteArray := prog_1_method_15_code
def yX10_tail : MethodName := ⟨RX10, "tail", "(II)I"⟩
abbrev cX10_begins : ByteArray := prog_1_method_16_code
def yX10_begins : MethodName := ⟨RX10, "begins", "(II)I"⟩
abbrev cX10_length : ByteArray := prog_1_method_17_code
def yX10_length : MethodName := ⟨RX10, "length", "(I)I"⟩
abbrev cX10_all : ByteArray := prog_1_method_18_code
def yX10_all : MethodName := ⟨RX10, "all", "(II)I"⟩
abbrev cX10_worst : ByteArray := prog_1_method_19_code
def yX10_worst : MethodName := ⟨RX10, "worst", "(I)I"⟩
abbrev cX10_exact : ByteArray := prog_1_method_20_code
def yX10_exact : MethodName := ⟨RX10, "exact", "(II)I"⟩
abbrev cX10_signs : ByteArray := prog_1_method_21_code
def yX10_signs : MethodName := ⟨RX10, "signs", "(I)I"⟩
abbrev cX10_fits : ByteArray := prog_1_method_22_code
def yX10_fits : MethodName := ⟨RX10, "fits", "()I"⟩
abbrev cX10_bestSlip : ByteArray := prog_1_method_23_code
def yX10_bestSlip : MethodName := ⟨RX10, "bestSlip", "(I)I"⟩
abbrev cX10_bySlip : ByteArray := prog_1_method_24_code
def yX10_bySlip : MethodName := ⟨RX10, "bySlip", "(I)I"⟩
abbrev cX10_needs : ByteArray := prog_1_method_25_code
def yX10_needs : MethodName := ⟨RX10, "needs", "(II)I"⟩
abbrev cX10_dies : ByteArray := prog_1_method_26_code
def yX10_dies : MethodName := ⟨RX10, "dies", "(II)I"⟩
abbrev cX10_firstDies : ByteArray := prog_1_method_27_code
def yX10_firstDies : MethodName := ⟨RX10, "firstDies", "(I)I"⟩
abbrev cX10_free : ByteArray := prog_1_method_28_code
def yX10_free : MethodName := ⟨RX10, "free", "(II)I"⟩
abbrev cX10_arc : ByteArray := prog_1_method_29_code
def yX10_arc : MethodName := ⟨RX10, "arc", "(II)I"⟩
abbrev cX10_never : ByteArray := prog_1_method_30_code
def yX10_never : MethodName := ⟨RX10, "never", "(I)I"⟩
abbrev cX10_truly : ByteArray := prog_1_method_31_code
def yX10_truly : MethodName := ⟨RX10, "truly", "(IIZ)J"⟩
abbrev cX10_likeliest : ByteArray := prog_1_method_32_code
def yX10_likeliest : MethodName := ⟨RX10, "likeliest", "(I)I"⟩
abbrev cX10_who : ByteArray := prog_1_method_33_code
def yX10_who : MethodName := ⟨RX10, "who", "(I)I"⟩
abbrev cX10_far : ByteArray := prog_1_method_34_code
def yX10_far : MethodName := ⟨RX10, "far", "(I)I"⟩
abbrev cX10_missing : ByteArray := prog_1_method_35_code
def yX10_missing : MethodName := ⟨RX10, "missing", "(IZ)I"⟩
abbrev cX10_words : ByteArray := prog_1_method_36_code
def yX10_words : MethodName := ⟨RX10, "words", "(I)I"⟩
abbrev cX10_holds : ByteArray := prog_1_method_37_code
def yX10_holds : MethodName := ⟨RX10, "holds", "(IIZ)J"⟩
abbrev cX10_pays : ByteArray := prog_1_method_38_code
def yX10_pays : MethodName := ⟨RX10, "pays", "(II)I"⟩
abbrev cX10_wears : ByteArray := prog_1_method_39_code
def yX10_wears : MethodName := ⟨RX10, "wears", "(IIZ)J"⟩
abbrev cX10_apart : ByteArray := prog_1_method_40_code
def yX10_apart : MethodName := ⟨RX10, "apart", "(II)I"⟩
abbrev cX10_waits : ByteArray := prog_1_method_41_code
def yX10_waits : MethodName := ⟨RX10, "waits", "(III)I"⟩
abbrev cX10_boys : ByteArray := prog_1_method_42_code
def yX10_boys : MethodName := ⟨RX10, "boys", "(I)I"⟩
abbrev cX10_well : ByteArray := prog_1_method_43_code
def yX10_well : MethodName := ⟨RX10, "well", "(Z)J"⟩
abbrev cX10_wrong : ByteArray := prog_1_method_44_code
def yX10_wrong : MethodName := ⟨RX10, "wrong", "()I"⟩
abbrev cX10_exchanges : ByteArray := prog_1_method_45_code
def yX10_exchanges : MethodName := ⟨RX10, "exchanges", "()I"⟩
abbrev cX10_dark : ByteArray := prog_1_method_46_code
def yX10_dark : MethodName := ⟨RX10, "dark", "(II)I"⟩
abbrev cX10_bestMan : ByteArray := prog_1_method_47_code
def yX10_bestMan : MethodName := ⟨RX10, "bestMan", "(II)I"⟩
abbrev cX10_threads : ByteArray := prog_1_method_48_code
def yX10_threads : MethodName := ⟨RX10, "threads", "(II)Z"⟩
abbrev cX10_trim : ByteArray := prog_1_method_49_code
def yX10_trim : MethodName := ⟨RX10, "trim", "(IZ)Z"⟩
abbrev cX10_mend : ByteArray := prog_1_method_50_code
def yX10_mend : MethodName := ⟨RX10, "mend", "(I)I"⟩
abbrev cX10_undo : ByteArray := prog_1_method_51_code
def yX10_undo : MethodName := ⟨RX10, "undo", "()Z"⟩
abbrev cX10_image : ByteArray := prog_1_method_52_code
def yX10_image : MethodName := ⟨RX10, "image", "()I"⟩
abbrev cX10_back : ByteArray := prog_1_method_53_code
def yX10_back : MethodName := ⟨RX10, "back", "(I)Z"⟩
abbrev cX10_led : ByteArray := prog_1_method_54_code
def yX10_led : MethodName := ⟨RX10, "led", "(I)I"⟩
abbrev cX10_size : ByteArray := prog_1_method_55_code
def yX10_size : MethodName := ⟨RX10, "size", "(I)I"⟩
abbrev cX10_trouble : ByteArray := prog_1_method_56_code
def yX10_trouble : MethodName := ⟨RX10, "trouble", "()I"⟩
abbrev cX10_refuse : ByteArray := prog_1_method_57_code
def yX10_refuse : MethodName := ⟨RX10, "refuse", "(I)I"⟩
abbrev cX10_tell : ByteArray := prog_1_method_58_code
def yX10_tell : MethodName := ⟨RX10, "tell", "(I)I"⟩
abbrev cX10_refuseAct : ByteArray := prog_1_method_59_code
def yX10_refuseAct : MethodName := ⟨RX10, "refuseAct", "(I)Z"⟩
abbrev cX10_actDone : ByteArray := prog_1_method_60_code
def yX10_actDone : MethodName := ⟨RX10, "actDone", "()Z"⟩
abbrev cX10_tellPart : ByteArray := prog_1_method_61_code
def yX10_tellPart : MethodName := ⟨RX10, "tellPart", "(Z)J"⟩
abbrev cX10_isOpen : ByteArray := prog_1_method_62_code
def yX10_isOpen : MethodName := ⟨RX10, "isOpen", "()Z"⟩
abbrev cX10_ofPlace : ByteArray := prog_1_method_63_code
def yX10_ofPlace : MethodName := ⟨RX10, "ofPlace", "(II)I"⟩
abbrev cX10_runNight : ByteArray := prog_1_method_64_code
def yX10_runNight : MethodName := ⟨RX10, "runNight", "(I)Z"⟩
abbrev cX10_ofNight : ByteArray := prog_1_method_65_code
def yX10_ofNight : MethodName := ⟨RX10, "ofNight", "(III)I"⟩
abbrev cX10_leastSlip : ByteArray := prog_1_method_66_code
def yX10_leastSlip : MethodName := ⟨RX10, "leastSlip", "(I)I"⟩
abbrev cX10_wasteByDraws : ByteArray := prog_1_method_67_code
def yX10_wasteByDraws : MethodName := ⟨RX10, "wasteByDraws", "(III)I"⟩
abbrev cX10_nearestMark : ByteArray := prog_1_method_68_code
def yX10_nearestMark : MethodName := ⟨RX10, "nearestMark", "(I)I"⟩
abbrev cX10_farFrom : ByteArray := prog_1_method_69_code
def yX10_farFrom : MethodName := ⟨RX10, "farFrom", "(II)I"⟩
abbrev cX10_lackedBy : ByteArray := prog_1_method_70_code
def yX10_lackedBy : MethodName := ⟨RX10, "lackedBy", "(I)I"⟩
abbrev cX10_rideTrouble : ByteArray := prog_1_method_71_code
def yX10_rideTrouble : MethodName := ⟨RX10, "rideTrouble", "(III)I"⟩
abbrev cX10_boysMeant : ByteArray := prog_1_method_72_code
def yX10_boysMeant : MethodName := ⟨RX10, "boysMeant", "(I)I"⟩
abbrev cX10_apartBy : ByteArray := prog_1_method_73_code
def yX10_apartBy : MethodName := ⟨RX10, "apartBy", "(I)I"⟩
def RX11 : String := "ReelChangeModel"
def TX11 : u_T := fun k => match k with
  | 0 => ("ReelChangeModel", "thrown", "I", false)
  | 1 => ("ReelChangeModel", "tape", "[I", true)
  | 2 => ("ReelChangeModel", "taped", "I", false)
  | 3 => ("ReelChangeModel", "size", "I", false)
  | 4 => ("ReelChangeModel", "at", "I", false)
  | 5 => ("ReelChangeModel", "end", "I", false)
  | 6 => ("ReelChangeModel", "token", "I", false)
  | 7 => ("ReelChangeModel", "whole", "I", false)
  | 8 => ("ReelChangeModel", "nameSize", "I", false)
  | 9 => ("ReelChangeModel", "fault", "I", false)
  | 10 => ("ReelChangeModel", "place", "I", false)
  | 11 => ("ReelChangeModel", "trouble", "I", false)
  | 12 => ("ReelChangeModel", "letters", "[I", true)
  | 13 => ("ReelChangeModel", "failed", "Z", false)
  | 14 => ("ReelChangeModel", "hasHouse", "Z", false)
  | 15 => ("ReelChangeModel", "\x72", "[I", true)
  | 16 => ("ReelChangeModel", "fresh", "[I", true)
  | 17 => ("ReelChangeModel", "st", "[I", true)
  | 18 => ("ReelChangeModel", "undone", "[I", true)
  | 19 => ("ReelChangeModel", "kept", "[I", true)
  | 20 => ("ReelChangeModel", "undos", "I", false)
  | 21 => ("ReelChangeModel", "images", "I", false)
  | 22 => ("ReelChangeModel", "from", "[I", true)
  | 23 => ("ReelChangeModel", "begin", "[I", true)
  | 24 => ("ReelChangeModel", "motor", "[I", true)
  | 25 => ("ReelChangeModel", "change", "[I", true)
  | 26 => ("ReelChangeModel", "startFrame", "[I", true)
  | 27 => ("ReelChangeModel", "changeFrame", "[I", true)
  | 28 => ("ReelChangeModel", "lostAt", "[I", true)
  | 29 => ("ReelChangeModel", "blackAt", "[I", true)
  | 30 => ("ReelChangeModel", "slips", "[I", true)
  | 31 => ("ReelChangeModel", "leftArc", "[I", true)
  | 32 => ("ReelChangeModel", "died", "[I", true)
  | 33 => ("ReelChangeModel", "arcs", "[I", true)
  | 34 => ("ReelChangeModel", "bestSum", "I", false)
  | 35 => ("ReelChangeModel", "nearest", "I", false)
  | 36 => ("ReelChangeModel", "nearestTown", "I", false)
  | 37 => ("ReelChangeModel", "there", "[I", true)
  | 38 => ("ReelChangeModel", "backAt", "[I", true)
  | 39 => ("ReelChangeModel", "sorted", "[I", true)
  | 40 => ("ReelChangeModel", "parts", "[I", true)
  | 41 => ("ReelChangeModel", "seed1", "I", false)
  | _ => ("ReelChangeModel", "darkNow", "I", false)
def tyX11 : Nat → FieldType := fun k => match k with
  | 0 => .int
  | 1 => .array .int
  | 2 => .int
  | 3 => .int
  | 4 => .int
  | 5 => .int
  | 6 => .int
  | 7 => .int
  | 8 => .int
  | 9 => .int
  | 10 => .int
  | 11 => .int
  | 12 => .array .int
  | 13 => .boolean
  | 14 => .boolean
  | 15 => .array .int
  | 16 => .array .int
  | 17 => .array .int
  | 18 => .array .int
  | 19 => .array .int
  | 20 => .int
  | 21 => .int
  | 22 => .array .int
  | 23 => .array .int
  | 24 => .array .int
  | 25 => .array .int
  | 26 => .array .int
  | 27 => .array .int
  | 28 => .array .int
  | 29 => .array .int
  | 30 => .array .int
  | 31 => .array .int
  | 32 => .array .int
  | 33 => .array .int
  | 34 => .int
  | 35 => .int
  | 36 => .int
  | 37 => .array .int
  | 38 => .array .int
  | 39 => .array .int
  | 40 => .array .int
  | 41 => .int
  | _ => .int
abbrev wsX110 : List Cond := u_ws RX11 TX11 43
theorem nmX11 : ∀ a, a < 43 → ∀ b, b < 43 → a ≠ b → (TX11 a).2.1 ≠ (TX11 b).2.1 := by decide +kernel
theorem tyX11_ok : ∀ k, k < 43 → parseFieldDescriptor (TX11 k).2.2.1 = some (tyX11 k) := by decide +kernel
abbrev cX11_init : ByteArray := prog_13_method_1_code
def yX11_init : MethodName := ⟨RX11, "<init>", "()V"⟩
abbrev cX11_good : ByteArray := prog_13_method_3_code
def yX11_good : MethodName := ⟨RX11, "good", "()V"⟩
abbrev cX11_no : ByteArray := prog_13_method_4_code
def yX11_no : MethodName := ⟨RX11, "no", "(I)I"⟩
abbrev cX11_isNot : ByteArray := prog_13_method_5_code
def yX11_isNot : MethodName := ⟨RX11, "isNot", "(I)Z"⟩
abbrev cX11_in : ByteArray := prog_13_method_6_code
def yX11_in : MethodName := ⟨RX11, "in", "(III)Z"⟩
abbrev cX11_hasBit : ByteArray := prog_13_method_7_code
def yX11_hasBit : MethodName := ⟨RX11, "hasBit", "(II)Z"⟩
abbrev cX11_ones : ByteArray := prog_13_method_8_code
def yX11_ones : MethodName := ⟨RX11, "ones", "(I)I"⟩
abbrev cX11_most : ByteArray := prog_13_method_9_code
def yX11_most : MethodName := ⟨RX11, "most", "(II)I"⟩
abbrev cX11_least : ByteArray := prog_13_method_10_code
def yX11_least : MethodName := ⟨RX11, "least", "(II)I"⟩
abbrev cX11_copy : ByteArray := prog_13_method_11_code
def yX11_copy : MethodName := ⟨RX11, "copy", "([II[III)V"⟩
abbrev cX11_lowest : ByteArray := prog_13_method_12_code
def yX11_lowest : MethodName := ⟨RX11, "lowest", "(JJZ)J"⟩
abbrev cX11_feed : ByteArray := prog_13_method_13_code
def yX11_feed : MethodName := ⟨RX11, "feed", "(IIIII)I"⟩
abbrev cX11_look : ByteArray := prog_13_method_14_code
def yX11_look : MethodName := ⟨RX11, "look", "(I)I"⟩
abbrev cX11_isSmall : ByteArray := prog_13_method_15_code
def yX11_isSmall : MethodName := ⟨RX11, "isSmall", "(I)Z"⟩
abbrev cX11_isDigit : ByteArray := prog_13_method_16_code
def yX11_isDigit : MethodName := ⟨RX11, "isDigit", "(I)Z"⟩
abbrev cX11_next : ByteArray := prog_13_method_17_code
def yX11_next : MethodName := ⟨RX11, "next", "()V"⟩
abbrev cX11_bad : ByteArray := prog_13_method_18_code
def yX11_bad : MethodName := ⟨RX11, "bad", "(II)V"⟩
abbrev cX11_isWord : ByteArray := prog_13_method_19_code
def yX11_isWord : MethodName := ⟨RX11, "isWord", "(Ljava/lang/String;)Z"⟩
abbrev cX11_takesWord : ByteArray := prog_13_method_20_code
def yX11_takesWord : MethodName := ⟨RX11, "takesWord", "(Ljava/lang/String;)Z"⟩
abbrev cX11_must : ByteArray := prog_13_method_21_code
def yX11_must : MethodName := ⟨RX11, "must", "(Ljava/lang/String;)V"⟩
abbrev cX11_mustName : ByteArray := prog_13_method_22_code
def yX11_mustName : MethodName := ⟨RX11, "mustName", "()V"⟩
abbrev cX11_find : ByteArray := prog_13_method_23_code
def yX11_find : MethodName := ⟨RX11, "find", "()I"⟩
abbrev cX11_newName : ByteArray := prog_13_method_24_code
def yX11_newName : MethodName := ⟨RX11, "newName", "(I)V"⟩
abbrev cX11_named : ByteArray := prog_13_method_25_code
def yX11_named : MethodName := ⟨RX11, "named", "(II)I"⟩
abbrev cX11_reelPassed : ByteArray := prog_13_method_26_code
def yX11_reelPassed : MethodName := ⟨RX11, "reelPassed", "()I"⟩
abbrev cX11_numberHere : ByteArray := prog_13_method_27_code
def yX11_numberHere : MethodName := ⟨RX11, "numberHere", "(II)I"⟩
abbrev cX11_number : ByteArray := prog_13_method_28_code
def yX11_number : MethodName := ⟨RX11, "number", "(II)I"⟩
abbrev cX11_after : ByteArray := prog_13_method_29_code
def yX11_after : MethodName := ⟨RX11, "after", "(Ljava/lang/String;II)I"⟩
abbrev cX11_comma : ByteArray := prog_13_method_30_code
def yX11_comma : MethodName := ⟨RX11, "comma", "()Z"⟩
abbrev cX11_house : ByteArray := prog_13_method_31_code
def yX11_house : MethodName := ⟨RX11, "house", "(I)I"⟩
abbrev cX11_opens : ByteArray := prog_13_method_32_code
def yX11_opens : MethodName := ⟨RX11, "opens", "(Ljava/lang/String;Z)Z"⟩
abbrev cX11_opensOnce : ByteArray := prog_13_method_33_code
def yX11_opensOnce : MethodName := ⟨RX11, "opensOnce", "(Ljava/lang/String;Z)Z"⟩
abbrev cX11_readLine : ByteArray := prog_13_method_34_code
def yX11_readLine : MethodName := ⟨RX11, "readLine", "()V"⟩
abbrev cX11_houseLine : ByteArray := prog_13_method_35_code
def yX11_houseLine : MethodName := ⟨RX11, "houseLine", "()V"⟩
abbrev cX11_reelLine : ByteArray := prog_13_method_36_code
def yX11_reelLine : MethodName := ⟨RX11, "reelLine", "()V"⟩
abbrev cX11_townLine : ByteArray := prog_13_method_37_code
def yX11_townLine : MethodName := ⟨RX11, "townLine", "()V"⟩
abbrev cX11_frameOf : ByteArray := prog_13_method_38_code
def yX11_frameOf : MethodName := ⟨RX11, "frameOf", "(I)I"⟩
abbrev cX11_markLine : ByteArray := prog_13_method_39_code
def yX11_markLine : MethodName := ⟨RX11, "markLine", "()V"⟩
abbrev cX11_joinLine : ByteArray := prog_13_method_40_code
def yX11_joinLine : MethodName := ⟨RX11, "joinLine", "()V"⟩
abbrev cX11_weakLine : ByteArray := prog_13_method_41_code
def yX11_weakLine : MethodName := ⟨RX11, "weakLine", "()V"⟩
abbrev cX11_manLine : ByteArray := prog_13_method_42_code
def yX11_manLine : MethodName := ⟨RX11, "manLine", "()V"⟩
abbrev cX11_showsLine : ByteArray := prog_13_method_43_code
def yX11_showsLine : MethodName := ⟨RX11, "showsLine", "()V"⟩
abbrev cX11_boysLine : ByteArray := prog_13_method_44_code
def yX11_boysLine : MethodName := ⟨RX11, "boysLine", "()V"⟩
abbrev cX11_seenLine : ByteArray := prog_13_method_45_code
def yX11_seenLine : MethodName := ⟨RX11, "seenLine", "()V"⟩
abbrev cX11_scratchLine : ByteArray := prog_13_method_46_code
def yX11_scratchLine : MethodName := ⟨RX11, "scratchLine", "()V"⟩
abbrev cX11_fault : ByteArray := prog_13_method_47_code
def yX11_fault : MethodName := ⟨RX11, "fault", "()I"⟩
abbrev cX11_where : ByteArray := prog_13_method_48_code
def yX11_where : MethodName := ⟨RX11, "where", "()I"⟩
abbrev cX11_isReel : ByteArray := prog_13_method_49_code
def yX11_isReel : MethodName := ⟨RX11, "isReel", "(I)Z"⟩
abbrev cX11_isPlace : ByteArray := prog_13_method_50_code
def yX11_isPlace : MethodName := ⟨RX11, "isPlace", "(I)Z"⟩
abbrev cX11_isMan : ByteArray := prog_13_method_51_code
def yX11_isMan : MethodName := ⟨RX11, "isMan", "(I)Z"⟩
abbrev cX11_isWeak : ByteArray := prog_13_method_52_code
def yX11_isWeak : MethodName := ⟨RX11, "isWeak", "(I)Z"⟩
abbrev cX11_isMended : ByteArray := prog_13_method_53_code
def yX11_isMended : MethodName := ⟨RX11, "isMended", "(I)Z"⟩
abbrev cX11_reelAt : ByteArray := prog_13_method_54_code
def yX11_reelAt : MethodName := ⟨RX11, "reelAt", "(I)I"⟩
abbrev cX11_framesAt : ByteArray := prog_13_method_55_code
def yX11_framesAt : MethodName := ⟨RX11, "framesAt", "(I)I"⟩
abbrev cX11_reel : ByteArray := prog_13_method_56_code
def yX11_reel : MethodName := ⟨RX11, "reel", "(II)I"⟩
abbrev cX11_marksOf : ByteArray := prog_13_method_57_code
def yX11_marksOf : MethodName := ⟨RX11, "marksOf", "(I)I"⟩
abbrev cX11_joinsOf : ByteArray := prog_13_method_58_code
def yX11_joinsOf : MethodName := ⟨RX11, "joinsOf", "(I)I"⟩
abbrev cX11_weaksOf : ByteArray := prog_13_method_59_code
def yX11_weaksOf : MethodName := ⟨RX11, "weaksOf", "(I)I"⟩
abbrev cX11_markOf : ByteArray := prog_13_method_60_code
def yX11_markOf : MethodName := ⟨RX11, "markOf", "(II)I"⟩
abbrev cX11_mark : ByteArray := prog_13_method_61_code
def yX11_mark : MethodName := ⟨RX11, "mark", "(II)I"⟩
abbrev cX11_shows : ByteArray := prog_13_method_62_code
def yX11_shows : MethodName := ⟨RX11, "shows", "(I)I"⟩
abbrev cX11_thread : ByteArray := prog_13_method_63_code
def yX11_thread : MethodName := ⟨RX11, "thread", "(I)I"⟩
abbrev cX11_believesOf : ByteArray := prog_13_method_64_code
def yX11_believesOf : MethodName := ⟨RX11, "believesOf", "(II)I"⟩
abbrev cX11_isGone : ByteArray := prog_13_method_65_code
def yX11_isGone : MethodName := ⟨RX11, "isGone", "(I)Z"⟩
abbrev cX11_layNight : ByteArray := prog_13_method_66_code
def yX11_layNight : MethodName := ⟨RX11, "layNight", "(I)V"⟩
abbrev cX11_follows : ByteArray := prog_13_method_67_code
def yX11_follows : MethodName := ⟨RX11, "follows", "(IIIIZ)V"⟩
abbrev cX11_layTold : ByteArray := prog_13_method_68_code
def yX11_layTold : MethodName := ⟨RX11, "layTold", "(I)V"⟩
abbrev cX11_tailOf : ByteArray := prog_13_method_69_code
def yX11_tailOf : MethodName := ⟨RX11, "tailOf", "(I)I"⟩
abbrev cX11_canTell : ByteArray := prog_13_method_70_code
def yX11_canTell : MethodName := ⟨RX11, "canTell", "(II)Z"⟩
abbrev cX11_believes : ByteArray := prog_13_method_71_code
def yX11_believes : MethodName := ⟨RX11, "believes", "(II)I"⟩
abbrev cX11_starts : ByteArray := prog_13_method_72_code
def yX11_starts : MethodName := ⟨RX11, "starts", "(II)I"⟩
abbrev cX11_changes : ByteArray := prog_13_method_73_code
def yX11_changes : MethodName := ⟨RX11, "changes", "(II)I"⟩
abbrev cX11_lost : ByteArray := prog_13_method_74_code
def yX11_lost : MethodName := ⟨RX11, "lost", "(II)I"⟩
abbrev cX11_black : ByteArray := prog_13_method_75_code
def yX11_black : MethodName := ⟨RX11, "black", "(II)I"⟩
abbrev cX11_tail : ByteArray := prog_13_method_76_code
def yX11_tail : MethodName := ⟨RX11, "tail", "(II)I"⟩
abbrev cX11_begins : ByteArray := prog_13_method_77_code
def yX11_begins : MethodName := ⟨RX11, "begins", "(II)I"⟩
abbrev cX11_length : ByteArray := prog_13_method_78_code
def yX11_length : MethodName := ⟨RX11, "length", "(I)I"⟩
abbrev cX11_sumOf : ByteArray := prog_13_method_79_code
def yX11_sumOf : MethodName := ⟨RX11, "sumOf", "(I)I"⟩
abbrev cX11_all : ByteArray := prog_13_method_80_code
def yX11_all : MethodName := ⟨RX11, "all", "(II)I"⟩
abbrev cX11_worst : ByteArray := prog_13_method_81_code
def yX11_worst : MethodName := ⟨RX11, "worst", "(I)I"⟩
abbrev cX11_exact : ByteArray := prog_13_method_82_code
def yX11_exact : MethodName := ⟨RX11, "exact", "(II)I"⟩
abbrev cX11_needsOf : ByteArray := prog_13_method_83_code
def yX11_needsOf : MethodName := ⟨RX11, "needsOf", "(I)I"⟩
abbrev cX11_freeOf : ByteArray := prog_13_method_84_code
def yX11_freeOf : MethodName := ⟨RX11, "freeOf", "(I)I"⟩
abbrev cX11_burn : ByteArray := prog_13_method_85_code
def yX11_burn : MethodName := ⟨RX11, "burn", "(I)Z"⟩
abbrev cX11_needs : ByteArray := prog_13_method_86_code
def yX11_needs : MethodName := ⟨RX11, "needs", "(II)I"⟩
abbrev cX11_dies : ByteArray := prog_13_method_87_code
def yX11_dies : MethodName := ⟨RX11, "dies", "(II)I"⟩
abbrev cX11_firstDies : ByteArray := prog_13_method_88_code
def yX11_firstDies : MethodName := ⟨RX11, "firstDies", "(I)I"⟩
abbrev cX11_arc : ByteArray := prog_13_method_89_code
def yX11_arc : MethodName := ⟨RX11, "arc", "(II)I"⟩
abbrev cX11_free : ByteArray := prog_13_method_90_code
def yX11_free : MethodName := ⟨RX11, "free", "(II)I"⟩
abbrev cX11_never : ByteArray := prog_13_method_91_code
def yX11_never : MethodName := ⟨RX11, "never", "(I)I"⟩
abbrev cX11_isDot : ByteArray := prog_13_method_92_code
def yX11_isDot : MethodName := ⟨RX11, "isDot", "(II)Z"⟩
abbrev cX11_weightOf : ByteArray := prog_13_method_93_code
def yX11_weightOf : MethodName := ⟨RX11, "weightOf", "(II)J"⟩
abbrev cX11_allWeights : ByteArray := prog_13_method_94_code
def yX11_allWeights : MethodName := ⟨RX11, "allWeights", "(I)J"⟩
abbrev cX11_truly : ByteArray := prog_13_method_95_code
def yX11_truly : MethodName := ⟨RX11, "truly", "(IIZ)J"⟩
abbrev cX11_likeliest : ByteArray := prog_13_method_96_code
def yX11_likeliest : MethodName := ⟨RX11, "likeliest", "(I)I"⟩
abbrev cX11_missing : ByteArray := prog_13_method_97_code
def yX11_missing : MethodName := ⟨RX11, "missing", "(IZ)I"⟩
abbrev cX11_words : ByteArray := prog_13_method_98_code
def yX11_words : MethodName := ⟨RX11, "words", "(I)I"⟩
abbrev cX11_power : ByteArray := prog_13_method_99_code
def yX11_power : MethodName := ⟨RX11, "power", "(II)J"⟩
abbrev cX11_holds : ByteArray := prog_13_method_100_code
def yX11_holds : MethodName := ⟨RX11, "holds", "(IIZ)J"⟩
abbrev cX11_pays : ByteArray := prog_13_method_101_code
def yX11_pays : MethodName := ⟨RX11, "pays", "(II)I"⟩
abbrev cX11_wears : ByteArray := prog_13_method_102_code
def yX11_wears : MethodName := ⟨RX11, "wears", "(IIZ)J"⟩
abbrev cX11_signsOf : ByteArray := prog_13_method_103_code
def yX11_signsOf : MethodName := ⟨RX11, "signsOf", "(I)I"⟩
abbrev cX11_signs : ByteArray := prog_13_method_104_code
def yX11_signs : MethodName := ⟨RX11, "signs", "(I)I"⟩
abbrev cX11_fits : ByteArray := prog_13_method_105_code
def yX11_fits : MethodName := ⟨RX11, "fits", "()I"⟩
abbrev cX11_bestSlipOf : ByteArray := prog_13_method_106_code
def yX11_bestSlipOf : MethodName := ⟨RX11, "bestSlipOf", "(I)I"⟩
abbrev cX11_bestSlip : ByteArray := prog_13_method_107_code
def yX11_bestSlip : MethodName := ⟨RX11, "bestSlip", "(I)I"⟩
abbrev cX11_bySlip : ByteArray := prog_13_method_108_code
def yX11_bySlip : MethodName := ⟨RX11, "bySlip", "(I)I"⟩
abbrev cX11_farOf : ByteArray := prog_13_method_109_code
def yX11_farOf : MethodName := ⟨RX11, "farOf", "(II)I"⟩
abbrev cX11_layScratch : ByteArray := prog_13_method_110_code
def yX11_layScratch : MethodName := ⟨RX11, "layScratch", "(I)Z"⟩
abbrev cX11_who : ByteArray := prog_13_method_111_code
def yX11_who : MethodName := ⟨RX11, "who", "(I)I"⟩
abbrev cX11_far : ByteArray := prog_13_method_112_code
def yX11_far : MethodName := ⟨RX11, "far", "(I)I"⟩
abbrev cX11_carry : ByteArray := prog_13_method_113_code
def yX11_carry : MethodName := ⟨RX11, "carry", "(II)V"⟩
abbrev cX11_apartOf : ByteArray := prog_13_method_114_code
def yX11_apartOf : MethodName := ⟨RX11, "apartOf", "(II)I"⟩
abbrev cX11_boyWhy : ByteArray := prog_13_method_115_code
def yX11_boyWhy : MethodName := ⟨RX11, "boyWhy", "(I)I"⟩
abbrev cX11_apart : ByteArray := prog_13_method_116_code
def yX11_apart : MethodName := ⟨RX11, "apart", "(II)I"⟩
abbrev cX11_boys : ByteArray := prog_13_method_117_code
def yX11_boys : MethodName := ⟨RX11, "boys", "(I)I"⟩
abbrev cX11_waits : ByteArray := prog_13_method_118_code
def yX11_waits : MethodName := ⟨RX11, "waits", "(III)I"⟩
abbrev cX11_well : ByteArray := prog_13_method_119_code
def yX11_well : MethodName := ⟨RX11, "well", "(Z)J"⟩
abbrev cX11_wrong : ByteArray := prog_13_method_120_code
def yX11_wrong : MethodName := ⟨RX11, "wrong", "()I"⟩
abbrev cX11_laySorted : ByteArray := prog_13_method_121_code
def yX11_laySorted : MethodName := ⟨RX11, "laySorted", "()V"⟩
abbrev cX11_isEven : ByteArray := prog_13_method_122_code
def yX11_isEven : MethodName := ⟨RX11, "isEven", "(I)Z"⟩
abbrev cX11_exchanges : ByteArray := prog_13_method_123_code
def yX11_exchanges : MethodName := ⟨RX11, "exchanges", "()I"⟩
abbrev cX11_drawn : ByteArray := prog_13_method_124_code
def yX11_drawn : MethodName := ⟨RX11, "drawn", "()I"⟩
abbrev cX11_drawNight : ByteArray := prog_13_method_125_code
def yX11_drawNight : MethodName := ⟨RX11, "drawNight", "(I)V"⟩
abbrev cX11_dark : ByteArray := prog_13_method_126_code
def yX11_dark : MethodName := ⟨RX11, "dark", "(II)I"⟩
abbrev cX11_bestMan : ByteArray := prog_13_method_127_code
def yX11_bestMan : MethodName := ⟨RX11, "bestMan", "(II)I"⟩
abbrev cX11_note : ByteArray := prog_13_method_128_code
def yX11_note : MethodName := ⟨RX11, "note", "()V"⟩
abbrev cX11_threads : ByteArray := prog_13_method_129_code
def yX11_threads : MethodName := ⟨RX11, "threads", "(II)Z"⟩
abbrev cX11_trim : ByteArray := prog_13_method_130_code
def yX11_trim : MethodName := ⟨RX11, "trim", "(IZ)Z"⟩
abbrev cX11_shifted : ByteArray := prog_13_method_131_code
def yX11_shifted : MethodName := ⟨RX11, "shifted", "(III)I"⟩
abbrev cX11_mend : ByteArray := prog_13_method_132_code
def yX11_mend : MethodName := ⟨RX11, "mend", "(I)I"⟩
abbrev cX11_undo : ByteArray := prog_13_method_133_code
def yX11_undo : MethodName := ⟨RX11, "undo", "()Z"⟩
abbrev cX11_image : ByteArray := prog_13_method_134_code
def yX11_image : MethodName := ⟨RX11, "image", "()I"⟩
abbrev cX11_back : ByteArray := prog_13_method_135_code
def yX11_back : MethodName := ⟨RX11, "back", "(I)Z"⟩
abbrev cX11_led : ByteArray := prog_13_method_136_code
def yX11_led : MethodName := ⟨RX11, "led", "(I)I"⟩
abbrev cX11_size : ByteArray := prog_13_method_137_code
def yX11_size : MethodName := ⟨RX11, "size", "(I)I"⟩
abbrev cX11_trouble : ByteArray := prog_13_method_138_code
def yX11_trouble : MethodName := ⟨RX11, "trouble", "()I"⟩
def RJx145de : String := "java/io/Serializable"
def TJx145de : u_T := fun k => match k with
  | _ => ("", "", "", false)
def tyJx145de : Nat → FieldType := fun k => match k with
  | _ => .int
abbrev wsJx145de0 : List Cond := u_ws RJx145de TJx145de 0
theorem nmJx145de : ∀ a, a < 0 → ∀ b, b < 0 → a ≠ b → (TJx145de a).2.1 ≠ (TJx145de b).2.1 := by decide +kernel
theorem tyJx145de_ok : ∀ k, k < 0 → parseFieldDescriptor (TJx145de k).2.2.1 = some (tyJx145de k) := by decide +kernel
def RJx9f9b0 : String := "java/lang/CharSequence"
def TJx9f9b0 : u_T := fun k => match k with
  | _ => ("", "", "", false)
def tyJx9f9b0 : Nat → FieldType := fun k => match k with
  | _ => .int
abbrev wsJx9f9b00 : List Cond := u_ws RJx9f9b0 TJx9f9b0 0
theorem nmJx9f9b0 : ∀ a, a < 0 → ∀ b, b < 0 → a ≠ b → (TJx9f9b0 a).2.1 ≠ (TJx9f9b0 b).2.1 := by decide +kernel
theorem tyJx9f9b0_ok : ∀ k, k < 0 → parseFieldDescriptor (TJx9f9b0 k).2.2.1 = some (tyJx9f9b0 k) := by decide +kernel
def RJxb160c : String := "java/lang/Comparable"
def TJxb160c : u_T := fun k => match k with
  | _ => ("", "", "", false)
def tyJxb160c : Nat → FieldType := fun k => match k with
  | _ => .int
abbrev wsJxb160c0 : List Cond := u_ws RJxb160c TJxb160c 0
theorem nmJxb160c : ∀ a, a < 0 → ∀ b, b < 0 → a ≠ b → (TJxb160c a).2.1 ≠ (TJxb160c b).2.1 := by decide +kernel
theorem tyJxb160c_ok : ∀ k, k < 0 → parseFieldDescriptor (TJxb160c k).2.2.1 = some (tyJxb160c k) := by decide +kernel
def RJ6 : String := "java/lang/Integer"
def TJ6 : u_T := fun k => match k with
  | _ => ("", "", "", false)
def tyJ6 : Nat → FieldType := fun k => match k with
  | _ => .int
abbrev wsJ60 : List Cond := u_ws RJ6 TJ6 0
theorem nmJ6 : ∀ a, a < 0 → ∀ b, b < 0 → a ≠ b → (TJ6 a).2.1 ≠ (TJ6 b).2.1 := by decide +kernel
theorem tyJ6_ok : ∀ k, k < 0 → parseFieldDescriptor (TJ6 k).2.2.1 = some (tyJ6 k) := by decide +kernel
abbrev cJ6_bitCount_0f7a4 : ByteArray := prog_18_method_49_code
def yJ6_bitCount_0f7a4 : MethodName := ⟨RJ6, "bitCount", "(I)I"⟩
def RJ9 : String := "java/lang/Math"
def TJ9 : u_T := fun k => match k with
  | _ => ("", "", "", false)
def tyJ9 : Nat → FieldType := fun k => match k with
  | _ => .int
abbrev wsJ90 : List Cond := u_ws RJ9 TJ9 0
theorem nmJ9 : ∀ a, a < 0 → ∀ b, b < 0 → a ≠ b → (TJ9 a).2.1 ≠ (TJ9 b).2.1 := by decide +kernel
theorem tyJ9_ok : ∀ k, k < 0 → parseFieldDescriptor (TJ9 k).2.2.1 = some (tyJ9 k) := by decide +kernel
abbrev cJ9_abs_0f7a4 : ByteArray := prog_19_method_59_code
def yJ9_abs_0f7a4 : MethodName := ⟨RJ9, "abs", "(I)I"⟩
abbrev cJ9_max_7cf53 : ByteArray := prog_19_method_65_code
def yJ9_max_7cf53 : MethodName := ⟨RJ9, "max", "(II)I"⟩
abbrev cJ9_min_7cf53 : ByteArray := prog_19_method_69_code
def yJ9_min_7cf53 : MethodName := ⟨RJ9, "min", "(II)I"⟩
def RJ0 : String := "java/lang/String"
def TJ0 : u_T := fun k => match k with
  | _ => ("", "", "", false)
def tyJ0 : Nat → FieldType := fun k => match k with
  | _ => .int
abbrev wsJ00 : List Cond := u_ws RJ0 TJ0 0
theorem nmJ0 : ∀ a, a < 0 → ∀ b, b < 0 → a ≠ b → (TJ0 a).2.1 ≠ (TJ0 b).2.1 := by decide +kernel
theorem tyJ0_ok : ∀ k, k < 0 → parseFieldDescriptor (TJ0 k).2.2.1 = some (tyJ0 k) := by decide +kernel
abbrev cJ0_length_8abf5 : ByteArray := prog_21_method_54_code
def yJ0_length_8abf5 : MethodName := ⟨RJ0, "length", "()I"⟩
abbrev cJ0_charAt_5068e : ByteArray := prog_21_method_56_code
def yJ0_charAt_5068e : MethodName := ⟨RJ0, "charAt", "(I)C"⟩
abbrev cJ0_coder_7d493 : ByteArray := prog_21_method_152_code
def yJ0_coder_7d493 : MethodName := ⟨RJ0, "coder", "()B"⟩
abbrev cJ0_isLatin1_aae02 : ByteArray := prog_21_method_154_code
def yJ0_isLatin1_aae02 : MethodName := ⟨RJ0, "isLatin1", "()Z"⟩
abbrev cJ0_checkIndex_df160 : ByteArray := prog_21_method_155_code
def yJ0_checkIndex_df160 : MethodName := ⟨RJ0, "checkIndex", "(II)V"⟩
def RJ1 : String := "java/lang/StringLatin1"
def TJ1 : u_T := fun k => match k with
  | _ => ("", "", "", false)
def tyJ1 : Nat → FieldType := fun k => match k with
  | _ => .int
abbrev wsJ10 : List Cond := u_ws RJ1 TJ1 0
theorem nmJ1 : ∀ a, a < 0 → ∀ b, b < 0 → a ≠ b → (TJ1 a).2.1 ≠ (TJ1 b).2.1 := by decide +kernel
theorem tyJ1_ok : ∀ k, k < 0 → parseFieldDescriptor (TJ1 k).2.2.1 = some (tyJ1 k) := by decide +kernel
abbrev cJ1_charAt_3b067 : ByteArray := prog_22_method_2_code
def yJ1_charAt_3b067 : MethodName := ⟨RJ1, "charAt", "([BI)C"⟩
def RJ2 : String := "java/lang/StringUTF16"
def TJ2 : u_T := fun k => match k with
  | _ => ("", "", "", false)
def tyJ2 : Nat → FieldType := fun k => match k with
  | _ => .int
abbrev wsJ20 : List Cond := u_ws RJ2 TJ2 0
theorem nmJ2 : ∀ a, a < 0 → ∀ b, b < 0 → a ≠ b → (TJ2 a).2.1 ≠ (TJ2 b).2.1 := by decide +kernel
theorem tyJ2_ok : ∀ k, k < 0 → parseFieldDescriptor (TJ2 k).2.2.1 = some (tyJ2 k) := by decide +kernel
abbrev cJ2_getChar_3b067 : ByteArray := prog_23_method_5_code
def yJ2_getChar_3b067 : MethodName := ⟨RJ2, "getChar", "([BI)C"⟩
abbrev cJ2_length_9d52b : ByteArray := prog_23_method_6_code
def yJ2_length_9d52b : MethodName := ⟨RJ2, "length", "([B)I"⟩
abbrev cJ2_charAt_3b067 : ByteArray := prog_23_method_83_code
def yJ2_charAt_3b067 : MethodName := ⟨RJ2, "charAt", "([BI)C"⟩
abbrev cJ2_checkIndex_2214a : ByteArray := prog_23_method_91_code
def yJ2_checkIndex_2214a : MethodName := ⟨RJ2, "checkIndex", "(I[B)V"⟩
def RJ10 : String := "java/lang/System"
def TJ10 : u_T := fun k => match k with
  | _ => ("", "", "", false)
def tyJ10 : Nat → FieldType := fun k => match k with
  | _ => .int
abbrev wsJ100 : List Cond := u_ws RJ10 TJ10 0
theorem nmJ10 : ∀ a, a < 0 → ∀ b, b < 0 → a ≠ b → (TJ10 a).2.1 ≠ (TJ10 b).2.1 := by decide +kernel
theorem tyJ10_ok : ∀ k, k < 0 → parseFieldDescriptor (TJ10 k).2.2.1 = some (tyJ10 k) := by decide +kernel
def RJxfd54e : String := "java/lang/constant/Constable"
def TJxfd54e : u_T := fun k => match k with
  | _ => ("", "", "", false)
def tyJxfd54e : Nat → FieldType := fun k => match k with
  | _ => .int
abbrev wsJxfd54e0 : List Cond := u_ws RJxfd54e TJxfd54e 0
theorem nmJxfd54e : ∀ a, a < 0 → ∀ b, b < 0 → a ≠ b → (TJxfd54e a).2.1 ≠ (TJxfd54e b).2.1 := by decide +kernel
theorem tyJxfd54e_ok : ∀ k, k < 0 → parseFieldDescriptor (TJxfd54e k).2.2.1 = some (tyJxfd54e k) := by decide +kernel
def RJx3cf43 : String := "java/lang/constant/ConstantDesc"
def TJx3cf43 : u_T := fun k => match k with
  | _ => ("", "", "", false)
def tyJx3cf43 : Nat → FieldType := fun k => match k with
  | _ => .int
abbrev wsJx3cf430 : List Cond := u_ws RJx3cf43 TJx3cf43 0
theorem nmJx3cf43 : ∀ a, a < 0 → ∀ b, b < 0 → a ≠ b → (TJx3cf43 a).2.1 ≠ (TJx3cf43 b).2.1 := by decide +kernel
theorem tyJx3cf43_ok : ∀ k, k < 0 → parseFieldDescriptor (TJx3cf43 k).2.2.1 = some (tyJx3cf43 k) := by decide +kernel
def RJ3 : String := "jdk/internal/util/Preconditions"
def TJ3 : u_T := fun k => match k with
  | _ => ("", "", "", false)
def tyJ3 : Nat → FieldType := fun k => match k with
  | _ => .int
abbrev wsJ30 : List Cond := u_ws RJ3 TJ3 0
theorem nmJ3 : ∀ a, a < 0 → ∀ b, b < 0 → a ≠ b → (TJ3 a).2.1 ≠ (TJ3 b).2.1 := by decide +kernel
theorem tyJ3_ok : ∀ k, k < 0 → parseFieldDescriptor (TJ3 k).2.2.1 = some (tyJ3 k) := by decide +kernel
abbrev cJ3_checkIndex_8e157 : ByteArray := prog_29_method_11_code
def yJ3_checkIndex_8e157 : MethodName := ⟨RJ3, "checkIndex", "(IILjava/util/function/BiFunction;)I"⟩
def RL : String := "ReelChangeLaw"
abbrev cL_led : ByteArray := method_3_code
def yL_led : MethodName := ⟨RL, "led", "(LReelChange;I[J)I"⟩
abbrev cL_law : ByteArray := code
def yL_law : MethodName := ⟨RL, "law", "([I)Z"⟩
end
section
def wU0 : List Cond := [Cond.classLink RL 8 RX10, Cond.instantiable RX10 10, Cond.initialized RX10, Cond.classLink RL 16 RX11, Cond.instantiable RX11 43, Cond.initialized RX11, Cond.arrayClass .long, Cond.methodLink RL 15 yX10_init, Cond.instanceMethod yX10_init, Cond.code yX10_init cX10_init 1 none, Cond.methodLink RX10 1 objectInit, Cond.instanceMethod objectInit, Cond.code objectInit ⟨#[0xb1]⟩ 1 none, Cond.classLink RX10 7 RX9, Cond.instantiable RX9 15, Cond.initialized RX9, Cond.fieldLink RX10 10 "ReelChange" "text" "LReelChange$Text;", Cond.classLink RX10 16 RX3, Cond.instantiable RX3 8, Cond.initialized RX3, Cond.fieldLink RX10 19 "ReelChange" "told" "LReelChange$House;", Cond.classLink RX10 23 RX7, Cond.instantiable RX7 6, Cond.initialized RX7]
theorem gU0_ : GoodIn lw_tbl wU0 := goodIn_r _ [148, 149, 125, 1373, 1374, 137, 337, 150, 151, 152, 153, 154, 155, 156, 157, 126, 479, 338, 163, 127, 480, 340, 169, 128] (by decide +kernel) (by decide +kernel)
def wU1 : List Cond := [Cond.fieldLink RX10 26 "ReelChange" "now" "LReelChange$State;", Cond.classLink RX10 30 RX4, Cond.instantiable RX4 5, Cond.initialized RX4, Cond.fieldLink RX10 33 "ReelChange" "kept" "LReelChange$Kept;", Cond.classLink RX10 37 RX5, Cond.instantiable RX5 9, Cond.initialized RX5, Cond.fieldLink RX10 40 "ReelChange" "night" "LReelChange$Night;", Cond.classLink RX10 44 RX0, Cond.instantiable RX0 2, Cond.initialized RX0, Cond.fieldLink RX10 47 "ReelChange" "arcs" "LReelChange$Arcs;", Cond.classLink RX10 51 RX6, Cond.instantiable RX6 3, Cond.initialized RX6, Cond.fieldLink RX10 54 "ReelChange" "riders" "LReelChange$Riders;", Cond.classLink RX10 58 RX1, Cond.instantiable RX1 3, Cond.initialized RX1, Cond.fieldLink RX10 61 "ReelChange" "exchanger" "LReelChange$Exchanger;", Cond.classLink RX10 65 RX2, Cond.instantiable RX2 2, Cond.initialized RX2]
theorem gU1_ : GoodIn lw_tbl wU1 := goodIn_r _ [481, 342, 343, 131, 482, 369, 370, 132, 483, 409, 410, 133, 484, 426, 427, 134, 485, 446, 447, 135, 486, 464, 465, 136] (by decide +kernel) (by decide +kernel)
def wU2 : List Cond := [Cond.fieldLink RX10 68 "ReelChange" "fraction" "LReelChange$Fraction;", Cond.fieldLink RX10 72 "ReelChange" "latestTrouble" "I", Cond.instanceMethod yX9_init, Cond.code yX9_init cX9_init 1 none, Cond.methodLink RX9 3 objectInit, Cond.fieldLink RX9 9 "ReelChange$Text" "taped" "I", Cond.classLink RX9 15 RX3, Cond.fieldLink RX9 18 "ReelChange$Text" "house" "LReelChange$House;", Cond.fieldLink RX9 22 "ReelChange$Text" "faultNumber" "I", Cond.fieldLink RX9 25 "ReelChange$Text" "faultPlace" "I", Cond.arrayClass .byte, Cond.fieldLink RX9 28 "ReelChange$Text" "tape" "[B", Cond.fieldLink RX9 32 "ReelChange$Text" "end" "I", Cond.fieldLink RX9 35 "ReelChange$Text" "names" "[J", Cond.classLink RX9 39 RX8, Cond.instantiable RX8 4, Cond.initialized RX8, Cond.fieldLink RX9 44 "ReelChange$Text" "named" "LReelChange$Table;", Cond.fieldLink RX9 48 "ReelChange$Text" "kind" "I", Cond.fieldLink RX9 51 "ReelChange$Text" "start" "I", Cond.fieldLink RX9 54 "ReelChange$Text" "position" "I", Cond.fieldLink RX9 57 "ReelChange$Text" "value" "I", Cond.fieldLink RX9 60 "ReelChange$Text" "letters" "J", Cond.fieldLink RX9 64 "ReelChange$Text" "taken" "I"]
theorem gU2_ : GoodIn lw_tbl wU2 := goodIn_r _ [487, 488, 159, 160, 161, 286, 162, 288, 290, 292, 336, 294, 295, 296, 284, 175, 129, 297, 298, 299, 300, 301, 302, 303] (by decide +kernel) (by decide +kernel)
def wU3 : List Cond := [Cond.fieldLink RX9 67 "ReelChange$Text" "takenAt" "I", Cond.instanceMethod yX3_init, Cond.code yX3_init cX3_init 1 none, Cond.methodLink RX3 1 objectInit, Cond.classLink RX3 7 RX7, Cond.fieldLink RX3 10 "ReelChange$House" "atFirst" "LReelChange$State;", Cond.classLink RX3 16 RX8, Cond.fieldLink RX3 21 "ReelChange$House" "numbers" "LReelChange$Table;", Cond.fieldLink RX3 25 "ReelChange$House" "towns" "LReelChange$Table;", Cond.fieldLink RX3 28 "ReelChange$House" "joins" "LReelChange$Table;", Cond.fieldLink RX3 31 "ReelChange$House" "men" "LReelChange$Table;", Cond.fieldLink RX3 34 "ReelChange$House" "boys" "LReelChange$Table;", Cond.fieldLink RX3 37 "ReelChange$House" "signs" "LReelChange$Table;", Cond.fieldLink RX3 40 "ReelChange$House" "scratches" "LReelChange$Table;", Cond.instanceMethod yX7_init, Cond.code yX7_init cX7_init 1 none, Cond.methodLink RX7 3 objectInit, Cond.classLink RX7 9 RX8, Cond.fieldLink RX7 14 "ReelChange$State" "reels" "LReelChange$Table;", Cond.fieldLink RX7 20 "ReelChange$State" "marks" "LReelChange$Table;", Cond.fieldLink RX7 23 "ReelChange$State" "weaks" "LReelChange$Table;", Cond.fieldLink RX7 26 "ReelChange$State" "places" "LReelChange$Table;", Cond.fieldLink RX7 29 "ReelChange$State" "mended" "I", Cond.fieldLink RX7 33 "ReelChange$State" "trims" "I"]
theorem gU3_ : GoodIn lw_tbl wU3 := goodIn_r _ [304, 165, 166, 167, 168, 242, 240, 245, 247, 250, 253, 257, 260, 264, 171, 172, 173, 174, 206, 211, 214, 218, 223, 225] (by decide +kernel) (by decide +kernel)
def wU4 : List Cond := [Cond.methodLink RX7 11 yX8_init, Cond.instanceMethod yX8_init, Cond.code yX8_init cX8_init 3 none, Cond.methodLink RX8 1 objectInit, Cond.fieldLink RX8 7 "ReelChange$Table" "count" "I", Cond.methodLink RX8 13 Lib.Math.max.name, Cond.static Lib.Math.max.name, Cond.initialized "java/lang/Math", Cond.code Lib.Math.max.name Lib.Math.max.code 2 (some .int), Cond.fieldLink RX8 19 "ReelChange$Table" "room" "I", Cond.fieldLink RX8 22 "ReelChange$Table" "width" "I", Cond.arrayClass .int, Cond.fieldLink RX8 25 "ReelChange$Table" "cells" "[I", Cond.methodLink RX3 18 yX8_init, Cond.methodLink RX9 41 yX8_init, Cond.methodLink RX10 32 yX4_init, Cond.instanceMethod yX4_init, Cond.code yX4_init cX4_init 2 none, Cond.methodLink RX4 3 objectInit, Cond.classLink RX4 11 RX7, Cond.fieldLink RX4 13 "ReelChange$Kept" "ahead" "[LReelChange$State;", Cond.fieldLink RX4 17 "ReelChange$Kept" "images" "[LReelChange$State;", Cond.fieldLink RX4 20 "ReelChange$Kept" "acts" "I", Cond.fieldLink RX4 24 "ReelChange$Kept" "next" "I"]
theorem gU4_ : GoodIn lw_tbl wU4 := goodIn_r _ [176, 177, 178, 179, 188, 180, 181, 130, 182, 183, 186, 205, 187, 241, 285, 344, 345, 346, 347, 348, 351, 352, 353, 355] (by decide +kernel) (by decide +kernel)
def wU5 : List Cond := [Cond.fieldLink RX4 27 "ReelChange$Kept" "imaged" "I", Cond.instanceMethod yX5_init, Cond.code yX5_init cX5_init 1 none, Cond.methodLink RX5 3 objectInit, Cond.classLink RX5 9 RX8, Cond.fieldLink RX5 14 "ReelChange$Night" "rows" "LReelChange$Table;", Cond.fieldLink RX5 20 "ReelChange$Night" "snapped" "I", Cond.fieldLink RX5 24 "ReelChange$Night" "mostSlip" "I", Cond.fieldLink RX5 27 "ReelChange$Night" "slip" "I", Cond.fieldLink RX5 30 "ReelChange$Night" "isDrawn" "Z", Cond.fieldLink RX5 34 "ReelChange$Night" "seed" "I", Cond.fieldLink RX5 37 "ReelChange$Night" "tick" "I", Cond.fieldLink RX5 40 "ReelChange$Night" "motorTick" "I", Cond.fieldLink RX5 43 "ReelChange$Night" "ahead" "I", Cond.methodLink RX5 11 yX8_init, Cond.instanceMethod yX0_init, Cond.code yX0_init cX0_init 1 none, Cond.methodLink RX0 3 objectInit, Cond.classLink RX0 9 RX8, Cond.fieldLink RX0 14 "ReelChange$Arcs" "left" "LReelChange$Table;", Cond.fieldLink RX0 20 "ReelChange$Arcs" "dying" "I", Cond.methodLink RX0 11 yX8_init, Cond.instanceMethod yX6_init, Cond.code yX6_init cX6_init 1 none]
theorem gU5_ : GoodIn lw_tbl wU5 := goodIn_r _ [356, 372, 373, 374, 375, 377, 381, 383, 384, 385, 386, 387, 388, 389, 376, 412, 413, 414, 415, 417, 419, 416, 429, 430] (by decide +kernel) (by decide +kernel)
def wU6 : List Cond := [Cond.methodLink RX6 3 objectInit, Cond.classLink RX6 9 RX8, Cond.fieldLink RX6 14 "ReelChange$Riders" "backAt" "LReelChange$Table;", Cond.fieldLink RX6 20 "ReelChange$Riders" "apartNeeded" "I", Cond.fieldLink RX6 24 "ReelChange$Riders" "waited" "I", Cond.methodLink RX6 11 yX8_init, Cond.instanceMethod yX1_init, Cond.code yX1_init cX1_init 1 none, Cond.methodLink RX1 3 objectInit, Cond.classLink RX1 9 RX8, Cond.fieldLink RX1 16 "ReelChange$Exchanger" "inOrder" "LReelChange$Table;", Cond.fieldLink RX1 20 "ReelChange$Exchanger" "parts" "LReelChange$Table;", Cond.fieldLink RX1 23 "ReelChange$Exchanger" "surplus" "[J", Cond.methodLink RX1 13 yX8_init, Cond.instanceMethod yX2_init, Cond.code yX2_init cX2_init 1 none, Cond.methodLink RX2 1 objectInit, Cond.fieldLink RX2 7 "ReelChange$Fraction" "upper" "J", Cond.fieldLink RX2 13 "ReelChange$Fraction" "lower" "J", Cond.methodLink RL 18 yX11_init, Cond.instanceMethod yX11_init, Cond.code yX11_init cX11_init 1 none, Cond.methodLink RX11 1 objectInit, Cond.fieldLink RX11 7 "ReelChangeModel" "tape" "[I"]
theorem gU6_ : GoodIn lw_tbl wU6 := goodIn_r _ [431, 432, 434, 435, 437, 433, 449, 450, 451, 452, 454, 455, 456, 453, 467, 468, 469, 470, 472, 1375, 1376, 1377, 1378, 1380] (by decide +kernel) (by decide +kernel)
def wU7 : List Cond := [Cond.fieldLink RX11 13 "ReelChangeModel" "place" "I", Cond.fieldLink RX11 17 "ReelChangeModel" "letters" "[I", Cond.fieldLink RX11 20 "ReelChangeModel" "\x72" "[I", Cond.fieldLink RX11 23 "ReelChangeModel" "fresh" "[I", Cond.fieldLink RX11 26 "ReelChangeModel" "st" "[I", Cond.fieldLink RX11 29 "ReelChangeModel" "undone" "[I", Cond.fieldLink RX11 32 "ReelChangeModel" "kept" "[I", Cond.fieldLink RX11 35 "ReelChangeModel" "from" "[I", Cond.fieldLink RX11 38 "ReelChangeModel" "begin" "[I", Cond.fieldLink RX11 41 "ReelChangeModel" "motor" "[I", Cond.fieldLink RX11 44 "ReelChangeModel" "change" "[I", Cond.fieldLink RX11 47 "ReelChangeModel" "startFrame" "[I", Cond.fieldLink RX11 50 "ReelChangeModel" "changeFrame" "[I", Cond.fieldLink RX11 53 "ReelChangeModel" "lostAt" "[I", Cond.fieldLink RX11 56 "ReelChangeModel" "blackAt" "[I", Cond.fieldLink RX11 59 "ReelChangeModel" "slips" "[I", Cond.fieldLink RX11 62 "ReelChangeModel" "leftArc" "[I", Cond.fieldLink RX11 65 "ReelChangeModel" "died" "[I", Cond.fieldLink RX11 68 "ReelChangeModel" "arcs" "[I", Cond.fieldLink RX11 71 "ReelChangeModel" "there" "[I", Cond.fieldLink RX11 74 "ReelChangeModel" "backAt" "[I", Cond.fieldLink RX11 77 "ReelChangeModel" "sorted" "[I", Cond.fieldLink RX11 80 "ReelChangeModel" "parts" "[I", Cond.methodLink RL 19 yX10_feed]
theorem gU7_ : GoodIn lw_tbl wU7 := goodIn_r _ [1389, 1391, 1394, 1395, 1396, 1397, 1398, 1401, 1402, 1403, 1404, 1405, 1406, 1407, 1408, 1409, 1410, 1411, 1412, 1416, 1417, 1418, 1419, 510] (by decide +kernel) (by decide +kernel)
def wU8 : List Cond := [Cond.instanceMethod yX10_feed, Cond.selects RX10 yX10_feed yX10_feed, Cond.code yX10_feed cX10_feed 6 (some .int), Cond.fieldLink RX10 76 "ReelChange$Text" "taped" "I", Cond.methodLink RX10 79 yX9_write, Cond.instanceMethod yX9_write, Cond.selects RX9 yX9_write yX9_write, Cond.code yX9_write cX9_write 3 none, Cond.methodLink RL 23 yX11_feed, Cond.instanceMethod yX11_feed, Cond.selects RX11 yX11_feed yX11_feed, Cond.code yX11_feed cX11_feed 8 (some .int), Cond.fieldLink RX11 83 "ReelChangeModel" "thrown" "I", Cond.fieldLink RX11 89 "ReelChangeModel" "taped" "I", Cond.methodLink RL 24 yX10_house, Cond.instanceMethod yX10_house, Cond.selects RX10 yX10_house yX10_house, Cond.code yX10_house cX10_house 2 (some .int), Cond.fieldLink RX10 90 "ReelChange$Text" "faultNumber" "I", Cond.fieldLink RX10 93 "ReelChange$Text" "house" "LReelChange$House;", Cond.fieldLink RX10 100 "ReelChange$House" "atFirst" "LReelChange$State;", Cond.fieldLink RX10 109 "ReelChange$State" "places" "LReelChange$Table;", Cond.fieldLink RX10 113 "ReelChange$Table" "count" "I", Cond.methodLink RX10 83 yX10_refuse]
theorem gU8_ : GoodIn lw_tbl wU8 := goodIn_r _ [511, 512, 513, 287, 514, 515, 516, 517, 1509, 1510, 1511, 1512, 1379, 1381, 518, 519, 520, 521, 291, 289, 243, 221, 193, 522] (by decide +kernel) (by decide +kernel)
def wU9 : List Cond := [Cond.instanceMethod yX10_refuse, Cond.selects RX10 yX10_refuse yX10_refuse, Cond.code yX10_refuse cX10_refuse 2 (some .int), Cond.methodLink RX10 87 yX9_read, Cond.instanceMethod yX9_read, Cond.selects RX9 yX9_read yX9_read, Cond.code yX9_read cX9_read 4 none, Cond.methodLink RX9 70 yX3_clear, Cond.instanceMethod yX3_clear, Cond.selects RX3 yX3_clear yX3_clear, Cond.code yX3_clear cX3_clear 1 none, Cond.methodLink RX3 47 yX7_clear, Cond.instanceMethod yX7_clear, Cond.selects RX7 yX7_clear yX7_clear, Cond.code yX7_clear cX7_clear 1 none, Cond.methodLink RX7 36 yX8_clear, Cond.instanceMethod yX8_clear, Cond.selects RX8 yX8_clear yX8_clear, Cond.code yX8_clear cX8_clear 1 none, Cond.methodLink RX3 50 yX8_clear, Cond.methodLink RX9 73 yX8_clear, Cond.methodLink RX9 74 yX9_next, Cond.instanceMethod yX9_next, Cond.selects RX9 yX9_next yX9_next]
theorem gU9_ : GoodIn lw_tbl wU9 := goodIn_r _ [524, 0, 525, 526, 527, 528, 529, 530, 531, 532, 533, 534, 535, 536, 537, 538, 539, 540, 541, 542, 543, 544, 546, 1] (by decide +kernel) (by decide +kernel)
def wU10 : List Cond := [Cond.code yX9_next cX9_next 1 none, Cond.constantLong RX9 301 (27), Cond.methodLink RX9 298 yX9_kindAt, Cond.instanceMethod yX9_kindAt, Cond.selects RX9 yX9_kindAt yX9_kindAt, Cond.code yX9_kindAt cX9_kindAt 3 (some .int), Cond.methodLink RX9 77 yX9_isLine, Cond.instanceMethod yX9_isLine, Cond.selects RX9 yX9_isLine yX9_isLine, Cond.code yX9_isLine cX9_isLine 1 (some .boolean), Cond.fieldLink RX9 116 "ReelChange$House" "numbers" "LReelChange$Table;", Cond.fieldLink RX9 97 "ReelChange$Table" "count" "I", Cond.methodLink RX9 104 yX9_is, Cond.instanceMethod yX9_is, Cond.selects RX9 yX9_is yX9_is, Cond.code yX9_is cX9_is 3 (some .boolean), Cond.methodLink RX9 289 yJ0_length_8abf5, Cond.instanceMethod yJ0_length_8abf5, Cond.selects RJ0 yJ0_length_8abf5 yJ0_length_8abf5, Cond.initialized RJ0, Cond.code yJ0_length_8abf5 cJ0_length_8abf5 1 (some .int), Cond.fieldLink RJ0 9 "java/lang/String" "value" "[B", Cond.methodLink RJ0 335 yJ0_coder_7d493, Cond.instanceMethod yJ0_coder_7d493]
theorem gU10_ : GoodIn lw_tbl wU10 := goodIn_r _ [547, 552, 548, 550, 2, 551, 553, 555, 3, 556, 246, 194, 558, 560, 4, 561, 562, 563, 564, 138, 565, 2098, 566, 567] (by decide +kernel) (by decide +kernel)
def wU11 : List Cond := [Cond.selects RJ0 yJ0_coder_7d493 yJ0_coder_7d493, Cond.code yJ0_coder_7d493 cJ0_coder_7d493 1 (some .byte), Cond.fieldLink RJ0 38 "java/lang/String" "COMPACT_STRINGS" "Z", Cond.fieldLink RJ0 15 "java/lang/String" "coder" "B", Cond.methodLink RX9 294 yJ0_charAt_5068e, Cond.instanceMethod yJ0_charAt_5068e, Cond.selects RJ0 yJ0_charAt_5068e yJ0_charAt_5068e, Cond.code yJ0_charAt_5068e cJ0_charAt_5068e 2 (some .char), Cond.methodLink RJ0 492 yJ0_isLatin1_aae02, Cond.instanceMethod yJ0_isLatin1_aae02, Cond.selects RJ0 yJ0_isLatin1_aae02 yJ0_isLatin1_aae02, Cond.code yJ0_isLatin1_aae02 cJ0_isLatin1_aae02 1 (some .boolean), Cond.methodLink RJ0 495 yJ1_charAt_3b067, Cond.static yJ1_charAt_3b067, Cond.initialized RJ1, Cond.code yJ1_charAt_3b067 cJ1_charAt_3b067 2 (some .char), Cond.methodLink RJ1 9 yJ0_checkIndex_df160, Cond.static yJ0_checkIndex_df160, Cond.code yJ0_checkIndex_df160 cJ0_checkIndex_df160 2 none, Cond.fieldLink RJ0 1053 "jdk/internal/util/Preconditions" "SIOOBE_FORMATTER" "Ljava/util/function/BiFunction;", Cond.methodLink RJ0 1059 yJ3_checkIndex_8e157, Cond.static yJ3_checkIndex_8e157, Cond.initialized RJ3, Cond.code yJ3_checkIndex_8e157 cJ3_checkIndex_8e157 3 (some .int)]
theorem gU11_ : GoodIn lw_tbl wU11 := goodIn_r _ [568, 569, 570, 2099, 572, 573, 574, 575, 576, 577, 578, 579, 580, 581, 139, 582, 583, 584, 585, 586, 588, 589, 140, 590] (by decide +kernel) (by decide +kernel)
def wU12 : List Cond := [Cond.methodLink RJ0 498 yJ2_charAt_3b067, Cond.static yJ2_charAt_3b067, Cond.initialized RJ2, Cond.code yJ2_charAt_3b067 cJ2_charAt_3b067 2 (some .char), Cond.methodLink RJ2 67 yJ2_checkIndex_2214a, Cond.static yJ2_checkIndex_2214a, Cond.code yJ2_checkIndex_2214a cJ2_checkIndex_2214a 2 none, Cond.methodLink RJ2 48 yJ2_length_9d52b, Cond.static yJ2_length_9d52b, Cond.code yJ2_length_9d52b cJ2_length_9d52b 1 (some .int), Cond.methodLink RJ2 414 yJ0_checkIndex_df160, Cond.methodLink RJ2 71 yJ2_getChar_3b067, Cond.static yJ2_getChar_3b067, Cond.code yJ2_getChar_3b067 cJ2_getChar_3b067 2 (some .char), Cond.fieldLink RJ2 44 "java/lang/StringUTF16" "$assertionsDisabled" "Z", Cond.fieldLink RJ2 59 "java/lang/StringUTF16" "HI_BYTE_SHIFT" "I", Cond.fieldLink RJ2 63 "java/lang/StringUTF16" "LO_BYTE_SHIFT" "I", Cond.methodLink RX9 108 yX9_isHouseLine, Cond.instanceMethod yX9_isHouseLine, Cond.selects RX9 yX9_isHouseLine yX9_isHouseLine, Cond.code yX9_isHouseLine cX9_isHouseLine 1 (some .boolean), Cond.methodLink RX9 84 yX9_refuseAt, Cond.instanceMethod yX9_refuseAt, Cond.selects RX9 yX9_refuseAt yX9_refuseAt]
theorem gU12_ : GoodIn lw_tbl wU12 := goodIn_r _ [591, 592, 141, 593, 594, 595, 596, 597, 598, 599, 600, 601, 602, 603, 604, 606, 608, 610, 612, 5, 613, 614, 616, 6] (by decide +kernel) (by decide +kernel)
def wU13 : List Cond := [Cond.code yX9_refuseAt cX9_refuseAt 3 (some .boolean), Cond.methodLink RX9 169 yX9_isNumber, Cond.instanceMethod yX9_isNumber, Cond.selects RX9 yX9_isNumber yX9_isNumber, Cond.code yX9_isNumber cX9_isNumber 5 (some .boolean), Cond.methodLink RX9 183 yX9_isLabel, Cond.instanceMethod yX9_isLabel, Cond.selects RX9 yX9_isLabel yX9_isLabel, Cond.code yX9_isLabel cX9_isLabel 2 (some .boolean), Cond.methodLink RX9 186 yX9_isWhole, Cond.instanceMethod yX9_isWhole, Cond.selects RX9 yX9_isWhole yX9_isWhole, Cond.code yX9_isWhole cX9_isWhole 3 (some .boolean), Cond.methodLink RX9 189 yX8_put, Cond.instanceMethod yX8_put, Cond.selects RX8 yX8_put yX8_put, Cond.code yX8_put cX8_put 4 none, Cond.methodLink RX9 113 yX9_isReserved, Cond.instanceMethod yX9_isReserved, Cond.selects RX9 yX9_isReserved yX9_isReserved, Cond.code yX9_isReserved cX9_isReserved 1 (some .boolean), Cond.methodLink RX9 121 yX9_isReelLine, Cond.instanceMethod yX9_isReelLine, Cond.selects RX9 yX9_isReelLine yX9_isReelLine]
theorem gU13_ : GoodIn lw_tbl wU13 := goodIn_r _ [617, 619, 621, 7, 622, 623, 625, 8, 626, 627, 629, 9, 630, 631, 632, 633, 634, 641, 643, 10, 644, 655, 657, 11] (by decide +kernel) (by decide +kernel)
def wU14 : List Cond := [Cond.code yX9_isReelLine cX9_isReelLine 4 (some .boolean), Cond.fieldLink RX9 88 "ReelChange$House" "atFirst" "LReelChange$State;", Cond.fieldLink RX9 193 "ReelChange$State" "reels" "LReelChange$Table;", Cond.methodLink RX9 196 yX9_hasRoom, Cond.instanceMethod yX9_hasRoom, Cond.selects RX9 yX9_hasRoom yX9_hasRoom, Cond.code yX9_hasRoom cX9_hasRoom 2 (some .boolean), Cond.methodLink RX9 262 yX8_isFull, Cond.instanceMethod yX8_isFull, Cond.selects RX8 yX8_isFull yX8_isFull, Cond.code yX8_isFull cX8_isFull 1 (some .boolean), Cond.methodLink RX9 200 yX9_isNewName, Cond.instanceMethod yX9_isNewName, Cond.selects RX9 yX9_isNewName yX9_isNewName, Cond.code yX9_isNewName cX9_isNewName 4 (some .boolean), Cond.methodLink RX9 284 yX9_findName, Cond.instanceMethod yX9_findName, Cond.selects RX9 yX9_findName yX9_findName, Cond.code yX9_findName cX9_findName 2 (some .int), Cond.methodLink RX9 209 yX8_add, Cond.instanceMethod yX8_add, Cond.selects RX8 yX8_add yX8_add, Cond.code yX8_add cX8_add 4 none, Cond.methodLink RX8 29 yX8_isFull]
theorem gU14_ : GoodIn lw_tbl wU14 := goodIn_r _ [658, 244, 210, 659, 661, 12, 662, 663, 664, 665, 666, 667, 669, 13, 670, 671, 673, 14, 674, 675, 676, 677, 678, 679] (by decide +kernel) (by decide +kernel)
def wU15 : List Cond := [Cond.methodLink RX8 33 yX8_put, Cond.methodLink RX9 126 yX9_isTownLine, Cond.instanceMethod yX9_isTownLine, Cond.selects RX9 yX9_isTownLine yX9_isTownLine, Cond.code yX9_isTownLine cX9_isTownLine 1 (some .boolean), Cond.fieldLink RX9 212 "ReelChange$House" "towns" "LReelChange$Table;", Cond.methodLink RX9 131 yX9_isMarkLine, Cond.instanceMethod yX9_isMarkLine, Cond.selects RX9 yX9_isMarkLine yX9_isMarkLine, Cond.code yX9_isMarkLine cX9_isMarkLine 4 (some .boolean), Cond.fieldLink RX9 217 "ReelChange$State" "marks" "LReelChange$Table;", Cond.methodLink RX9 220 yX9_isOldName, Cond.instanceMethod yX9_isOldName, Cond.selects RX9 yX9_isOldName yX9_isOldName, Cond.code yX9_isOldName cX9_isOldName 3 (some .boolean), Cond.methodLink RX9 240 yX8_at, Cond.instanceMethod yX8_at, Cond.selects RX8 yX8_at yX8_at, Cond.code yX8_at cX8_at 3 (some .int), Cond.methodLink RX9 224 yX9_lastFrame, Cond.instanceMethod yX9_lastFrame, Cond.selects RX9 yX9_lastFrame yX9_lastFrame, Cond.code yX9_lastFrame cX9_lastFrame 2 (some .int), Cond.methodLink RX9 228 yX7_markBy]
theorem gU15_ : GoodIn lw_tbl wU15 := goodIn_r _ [680, 684, 686, 15, 687, 249, 689, 691, 16, 692, 213, 693, 695, 17, 696, 697, 698, 699, 700, 701, 703, 18, 704, 705] (by decide +kernel) (by decide +kernel)
def wU16 : List Cond := [Cond.instanceMethod yX7_markBy, Cond.selects RX7 yX7_markBy yX7_markBy, Cond.code yX7_markBy cX7_markBy 4 (some .int), Cond.fieldLink RX7 51 "ReelChange$Table" "count" "I", Cond.methodLink RX7 43 yX8_at, Cond.methodLink RX9 136 yX9_isJoinLine, Cond.instanceMethod yX9_isJoinLine, Cond.selects RX9 yX9_isJoinLine yX9_isJoinLine, Cond.code yX9_isJoinLine cX9_isJoinLine 2 (some .boolean), Cond.fieldLink RX9 232 "ReelChange$House" "joins" "LReelChange$Table;", Cond.methodLink RX9 141 yX9_isWeakLine, Cond.instanceMethod yX9_isWeakLine, Cond.selects RX9 yX9_isWeakLine yX9_isWeakLine, Cond.code yX9_isWeakLine cX9_isWeakLine 5 (some .boolean), Cond.fieldLink RX9 237 "ReelChange$State" "weaks" "LReelChange$Table;", Cond.methodLink RX9 146 yX9_isManLine, Cond.instanceMethod yX9_isManLine, Cond.selects RX9 yX9_isManLine yX9_isManLine, Cond.code yX9_isManLine cX9_isManLine 3 (some .boolean), Cond.fieldLink RX9 100 "ReelChange$House" "men" "LReelChange$Table;", Cond.methodLink RX9 245 yX9_kindOfMan, Cond.instanceMethod yX9_kindOfMan, Cond.selects RX9 yX9_kindOfMan yX9_kindOfMan, Cond.code yX9_kindOfMan cX9_kindOfMan 1 (some .int)]
theorem gU16_ : GoodIn lw_tbl wU16 := goodIn_r _ [706, 707, 708, 195, 709, 710, 712, 19, 713, 252, 715, 717, 20, 718, 217, 720, 722, 21, 723, 255, 724, 726, 22, 727] (by decide +kernel) (by decide +kernel)
def wU17 : List Cond := [Cond.methodLink RX9 151 yX9_isShowsLine, Cond.instanceMethod yX9_isShowsLine, Cond.selects RX9 yX9_isShowsLine yX9_isShowsLine, Cond.code yX9_isShowsLine cX9_isShowsLine 4 (some .boolean), Cond.fieldLink RX9 92 "ReelChange$State" "places" "LReelChange$Table;", Cond.fieldLink RX9 259 "ReelChange$Table" "room" "I", Cond.methodLink RX9 265 yX3_number, Cond.instanceMethod yX3_number, Cond.selects RX3 yX3_number yX3_number, Cond.code yX3_number cX3_number 2 (some .int), Cond.methodLink RX3 43 yX8_at, Cond.methodLink RX9 156 yX9_isBoysLine, Cond.instanceMethod yX9_isBoysLine, Cond.selects RX9 yX9_isBoysLine yX9_isBoysLine, Cond.code yX9_isBoysLine cX9_isBoysLine 3 (some .boolean), Cond.fieldLink RX9 268 "ReelChange$House" "boys" "LReelChange$Table;", Cond.methodLink RX9 161 yX9_isSeenLine, Cond.instanceMethod yX9_isSeenLine, Cond.selects RX9 yX9_isSeenLine yX9_isSeenLine, Cond.code yX9_isSeenLine cX9_isSeenLine 4 (some .boolean), Cond.fieldLink RX9 274 "ReelChange$House" "signs" "LReelChange$Table;", Cond.methodLink RX9 164 yX9_isScratchLine, Cond.instanceMethod yX9_isScratchLine, Cond.selects RX9 yX9_isScratchLine yX9_isScratchLine]
theorem gU17_ : GoodIn lw_tbl wU17 := goodIn_r _ [733, 735, 23, 736, 222, 185, 737, 738, 739, 740, 741, 742, 744, 24, 745, 258, 748, 750, 25, 751, 262, 754, 756, 26] (by decide +kernel) (by decide +kernel)
def wU18 : List Cond := [Cond.code yX9_isScratchLine cX9_isScratchLine 2 (some .boolean), Cond.fieldLink RX9 281 "ReelChange$House" "scratches" "LReelChange$Table;", Cond.methodLink RX9 81 yX9_isFollowed, Cond.instanceMethod yX9_isFollowed, Cond.selects RX9 yX9_isFollowed yX9_isFollowed, Cond.code yX9_isFollowed cX9_isFollowed 1 (some .boolean), Cond.methodLink RX10 96 yX3_copyFrom, Cond.instanceMethod yX3_copyFrom, Cond.selects RX3 yX3_copyFrom yX3_copyFrom, Cond.code yX3_copyFrom cX3_copyFrom 2 none, Cond.methodLink RX3 51 yX7_copyFrom, Cond.instanceMethod yX7_copyFrom, Cond.selects RX7 yX7_copyFrom yX7_copyFrom, Cond.code yX7_copyFrom cX7_copyFrom 2 none, Cond.methodLink RX7 39 yX8_copyFrom, Cond.instanceMethod yX8_copyFrom, Cond.selects RX8 yX8_copyFrom yX8_copyFrom, Cond.code yX8_copyFrom cX8_copyFrom 2 none, Cond.methodLink RX8 40 arraycopyName, Cond.native arraycopyName, Cond.static arraycopyName, Cond.initialized "java/lang/System", Cond.methodLink RX3 55 yX8_copyFrom, Cond.methodLink RX10 103 yX7_copyFrom]
theorem gU18_ : GoodIn lw_tbl wU18 := goodIn_r _ [757, 265, 758, 760, 27, 761, 762, 763, 764, 765, 766, 767, 768, 769, 770, 771, 772, 773, 774, 776, 775, 142, 777, 778] (by decide +kernel) (by decide +kernel)
def wU19 : List Cond := [Cond.methodLink RX10 106 yX4_forget, Cond.instanceMethod yX4_forget, Cond.selects RX4 yX4_forget yX4_forget, Cond.code yX4_forget cX4_forget 1 none, Cond.methodLink RX10 118 yX10_tell, Cond.instanceMethod yX10_tell, Cond.selects RX10 yX10_tell yX10_tell, Cond.code yX10_tell cX10_tell 2 (some .int), Cond.methodLink RL 27 yX11_house, Cond.instanceMethod yX11_house, Cond.selects RX11 yX11_house yX11_house, Cond.code yX11_house cX11_house 3 (some .int), Cond.fieldLink RX11 125 "ReelChangeModel" "fault" "I", Cond.fieldLink RX11 121 "ReelChangeModel" "failed" "Z", Cond.fieldLink RX11 92 "ReelChangeModel" "size" "I", Cond.fieldLink RX11 95 "ReelChangeModel" "end" "I", Cond.fieldLink RX11 111 "ReelChangeModel" "token" "I", Cond.fieldLink RX11 102 "ReelChangeModel" "at" "I", Cond.fieldLink RX11 213 "ReelChangeModel" "hasHouse" "Z", Cond.fieldLink RX11 216 "ReelChangeModel" "undos" "I", Cond.fieldLink RX11 219 "ReelChangeModel" "images" "I", Cond.methodLink RX11 200 yX11_good, Cond.instanceMethod yX11_good, Cond.selects RX11 yX11_good yX11_good]
theorem gU19_ : GoodIn lw_tbl wU19 := goodIn_r _ [779, 780, 781, 782, 783, 785, 28, 786, 1513, 1514, 1515, 1516, 1388, 1392, 1382, 1384, 1385, 1383, 1393, 1399, 1400, 1517, 1519, 54] (by decide +kernel) (by decide +kernel)
def wU20 : List Cond := [Cond.code yX11_good cX11_good 1 none, Cond.fieldLink RX11 86 "ReelChangeModel" "trouble" "I", Cond.methodLink RX11 182 yX11_in, Cond.static yX11_in, Cond.code yX11_in cX11_in 3 (some .boolean), Cond.methodLink RX11 203 yX11_no, Cond.instanceMethod yX11_no, Cond.selects RX11 yX11_no yX11_no, Cond.code yX11_no cX11_no 2 (some .int), Cond.methodLink RX11 142 yX11_next, Cond.instanceMethod yX11_next, Cond.selects RX11 yX11_next yX11_next, Cond.code yX11_next cX11_next 4 none, Cond.fieldLink RX11 105 "ReelChangeModel" "nameSize" "I", Cond.fieldLink RX11 108 "ReelChangeModel" "whole" "I", Cond.methodLink RX11 98 yX11_look, Cond.instanceMethod yX11_look, Cond.selects RX11 yX11_look yX11_look, Cond.code yX11_look cX11_look 2 (some .int), Cond.methodLink RX11 114 yX11_isSmall, Cond.static yX11_isSmall, Cond.code yX11_isSmall cX11_isSmall 1 (some .boolean), Cond.methodLink RX11 118 yX11_isDigit, Cond.static yX11_isDigit]
theorem gU20_ : GoodIn lw_tbl wU20 := goodIn_r _ [1520, 1390, 1521, 1522, 1523, 1524, 1526, 55, 1527, 1528, 1530, 56, 1531, 1387, 1386, 1532, 1534, 57, 1535, 1536, 1537, 1538, 1539, 1540] (by decide +kernel) (by decide +kernel)
def wU21 : List Cond := [Cond.code yX11_isDigit cX11_isDigit 1 (some .boolean), Cond.methodLink RX11 206 yX11_readLine, Cond.instanceMethod yX11_readLine, Cond.selects RX11 yX11_readLine yX11_readLine, Cond.code yX11_readLine cX11_readLine 1 none, Cond.methodLink RX11 138 yX11_isWord, Cond.instanceMethod yX11_isWord, Cond.selects RX11 yX11_isWord yX11_isWord, Cond.code yX11_isWord cX11_isWord 4 (some .boolean), Cond.methodLink RX11 128 yJ0_length_8abf5, Cond.methodLink RX11 134 yJ0_charAt_5068e, Cond.methodLink RX11 222 yX11_houseLine, Cond.instanceMethod yX11_houseLine, Cond.selects RX11 yX11_houseLine yX11_houseLine, Cond.code yX11_houseLine cX11_houseLine 1 none, Cond.methodLink RX11 148 yX11_bad, Cond.instanceMethod yX11_bad, Cond.selects RX11 yX11_bad yX11_bad, Cond.code yX11_bad cX11_bad 3 none, Cond.methodLink RX11 264 yX11_after, Cond.instanceMethod yX11_after, Cond.selects RX11 yX11_after yX11_after, Cond.code yX11_after cX11_after 4 (some .int), Cond.methodLink RX11 193 yX11_must]
theorem gU21_ : GoodIn lw_tbl wU21 := goodIn_r _ [1541, 1542, 1544, 58, 1545, 1547, 1549, 59, 1550, 1551, 1552, 1553, 1555, 60, 1556, 1557, 1559, 61, 1560, 1562, 1564, 62, 1565, 1566] (by decide +kernel) (by decide +kernel)
def wU22 : List Cond := [Cond.instanceMethod yX11_must, Cond.selects RX11 yX11_must yX11_must, Cond.code yX11_must cX11_must 2 none, Cond.methodLink RX11 145 yX11_takesWord, Cond.instanceMethod yX11_takesWord, Cond.selects RX11 yX11_takesWord yX11_takesWord, Cond.code yX11_takesWord cX11_takesWord 2 (some .boolean), Cond.methodLink RX11 197 yX11_number, Cond.instanceMethod yX11_number, Cond.selects RX11 yX11_number yX11_number, Cond.code yX11_number cX11_number 4 (some .int), Cond.methodLink RX11 190 yX11_numberHere, Cond.instanceMethod yX11_numberHere, Cond.selects RX11 yX11_numberHere yX11_numberHere, Cond.code yX11_numberHere cX11_numberHere 3 (some .int), Cond.methodLink RX11 225 yX11_opens, Cond.instanceMethod yX11_opens, Cond.selects RX11 yX11_opens yX11_opens, Cond.code yX11_opens cX11_opens 3 (some .boolean), Cond.methodLink RX11 229 yX11_reelLine, Cond.instanceMethod yX11_reelLine, Cond.selects RX11 yX11_reelLine yX11_reelLine, Cond.code yX11_reelLine cX11_reelLine 2 none, Cond.methodLink RX11 277 yX11_newName]
theorem gU22_ : GoodIn lw_tbl wU22 := goodIn_r _ [1568, 63, 1569, 1570, 1572, 64, 1573, 1574, 1576, 65, 1577, 1578, 1580, 66, 1581, 1588, 1590, 67, 1591, 1592, 1594, 68, 1595, 1596] (by decide +kernel) (by decide +kernel)
def wU23 : List Cond := [Cond.instanceMethod yX11_newName, Cond.selects RX11 yX11_newName yX11_newName, Cond.code yX11_newName cX11_newName 3 none, Cond.methodLink RX11 176 yX11_mustName, Cond.instanceMethod yX11_mustName, Cond.selects RX11 yX11_mustName yX11_mustName, Cond.code yX11_mustName cX11_mustName 2 none, Cond.methodLink RX11 179 yX11_find, Cond.instanceMethod yX11_find, Cond.selects RX11 yX11_find yX11_find, Cond.code yX11_find cX11_find 4 (some .int), Cond.methodLink RX11 232 yX11_townLine, Cond.instanceMethod yX11_townLine, Cond.selects RX11 yX11_townLine yX11_townLine, Cond.code yX11_townLine cX11_townLine 1 none, Cond.methodLink RX11 235 yX11_markLine, Cond.instanceMethod yX11_markLine, Cond.selects RX11 yX11_markLine yX11_markLine, Cond.code yX11_markLine cX11_markLine 6 none, Cond.methodLink RX11 288 yX11_reelPassed, Cond.instanceMethod yX11_reelPassed, Cond.selects RX11 yX11_reelPassed yX11_reelPassed, Cond.code yX11_reelPassed cX11_reelPassed 2 (some .int), Cond.methodLink RX11 186 yX11_named]
theorem gU23_ : GoodIn lw_tbl wU23 := goodIn_r _ [1598, 69, 1599, 1600, 1602, 70, 1603, 1614, 1616, 71, 1617, 1621, 1623, 72, 1624, 1626, 1628, 73, 1629, 1630, 1632, 74, 1633, 1634] (by decide +kernel) (by decide +kernel)
def wU24 : List Cond := [Cond.instanceMethod yX11_named, Cond.selects RX11 yX11_named yX11_named, Cond.code yX11_named cX11_named 4 (some .int), Cond.methodLink RX11 291 yX11_frameOf, Cond.instanceMethod yX11_frameOf, Cond.selects RX11 yX11_frameOf yX11_frameOf, Cond.code yX11_frameOf cX11_frameOf 2 (some .int), Cond.methodLink RX11 238 yX11_joinLine, Cond.instanceMethod yX11_joinLine, Cond.selects RX11 yX11_joinLine yX11_joinLine, Cond.code yX11_joinLine cX11_joinLine 2 none, Cond.methodLink RX11 241 yX11_weakLine, Cond.instanceMethod yX11_weakLine, Cond.selects RX11 yX11_weakLine yX11_weakLine, Cond.code yX11_weakLine cX11_weakLine 5 none, Cond.methodLink RX11 244 yX11_manLine, Cond.instanceMethod yX11_manLine, Cond.selects RX11 yX11_manLine yX11_manLine, Cond.code yX11_manLine cX11_manLine 5 none, Cond.methodLink RX11 247 yX11_opensOnce, Cond.instanceMethod yX11_opensOnce, Cond.selects RX11 yX11_opensOnce yX11_opensOnce, Cond.code yX11_opensOnce cX11_opensOnce 3 (some .boolean), Cond.methodLink RX11 250 yX11_showsLine]
theorem gU24_ : GoodIn lw_tbl wU24 := goodIn_r _ [1636, 75, 1637, 1638, 1640, 76, 1641, 1642, 1644, 77, 1645, 1647, 1649, 78, 1650, 1652, 1654, 79, 1655, 1661, 1663, 80, 1664, 1665] (by decide +kernel) (by decide +kernel)
def wU25 : List Cond := [Cond.instanceMethod yX11_showsLine, Cond.selects RX11 yX11_showsLine yX11_showsLine, Cond.code yX11_showsLine cX11_showsLine 4 none, Cond.methodLink RX11 308 yX11_comma, Cond.instanceMethod yX11_comma, Cond.selects RX11 yX11_comma yX11_comma, Cond.code yX11_comma cX11_comma 1 (some .boolean), Cond.methodLink RX11 253 yX11_boysLine, Cond.instanceMethod yX11_boysLine, Cond.selects RX11 yX11_boysLine yX11_boysLine, Cond.code yX11_boysLine cX11_boysLine 2 none, Cond.methodLink RX11 256 yX11_seenLine, Cond.instanceMethod yX11_seenLine, Cond.selects RX11 yX11_seenLine yX11_seenLine, Cond.code yX11_seenLine cX11_seenLine 2 none, Cond.methodLink RX11 259 yX11_scratchLine, Cond.instanceMethod yX11_scratchLine, Cond.selects RX11 yX11_scratchLine yX11_scratchLine, Cond.code yX11_scratchLine cX11_scratchLine 2 none, Cond.methodLink RX11 209 yX11_copy, Cond.static yX11_copy, Cond.code yX11_copy cX11_copy 6 none, Cond.methodLink RL 28 yX10_fault, Cond.instanceMethod yX10_fault]
theorem gU25_ : GoodIn lw_tbl wU25 := goodIn_r _ [1667, 81, 1668, 1669, 1671, 82, 1672, 1673, 1675, 83, 1676, 1679, 1681, 84, 1682, 1685, 1687, 85, 1688, 1689, 1690, 1691, 787, 788] (by decide +kernel) (by decide +kernel)
def wU26 : List Cond := [Cond.selects RX10 yX10_fault yX10_fault, Cond.code yX10_fault cX10_fault 1 (some .int), Cond.methodLink RL 32 yX11_fault, Cond.instanceMethod yX11_fault, Cond.selects RX11 yX11_fault yX11_fault, Cond.code yX11_fault cX11_fault 1 (some .int), Cond.methodLink RL 33 yX10_where, Cond.instanceMethod yX10_where, Cond.selects RX10 yX10_where yX10_where, Cond.code yX10_where cX10_where 1 (some .int), Cond.fieldLink RX10 121 "ReelChange$Text" "faultPlace" "I", Cond.methodLink RL 36 yX11_where, Cond.instanceMethod yX11_where, Cond.selects RX11 yX11_where yX11_where, Cond.code yX11_where cX11_where 1 (some .int), Cond.methodLink RL 37 yX10_reel, Cond.instanceMethod yX10_reel, Cond.selects RX10 yX10_reel yX10_reel, Cond.code yX10_reel cX10_reel 3 (some .int), Cond.fieldLink RX10 124 "ReelChange$State" "reels" "LReelChange$Table;", Cond.fieldLink RX10 131 "ReelChange$State" "marks" "LReelChange$Table;", Cond.fieldLink RX10 138 "ReelChange$House" "joins" "LReelChange$Table;", Cond.fieldLink RX10 144 "ReelChange$State" "weaks" "LReelChange$Table;", Cond.methodLink RX10 127 yX8_has]
theorem gU26_ : GoodIn lw_tbl wU26 := goodIn_r _ [789, 790, 1692, 1693, 1694, 1695, 791, 792, 793, 794, 293, 1696, 1697, 1698, 1699, 795, 796, 797, 798, 209, 212, 251, 215, 799] (by decide +kernel) (by decide +kernel)
def wU27 : List Cond := [Cond.instanceMethod yX8_has, Cond.selects RX8 yX8_has yX8_has, Cond.code yX8_has cX8_has 2 (some .boolean), Cond.methodLink RX10 134 yX8_howMany, Cond.instanceMethod yX8_howMany, Cond.selects RX8 yX8_howMany yX8_howMany, Cond.code yX8_howMany cX8_howMany 5 (some .int), Cond.methodLink RX8 37 yX8_at, Cond.methodLink RX10 141 yX7_mendedOn, Cond.instanceMethod yX7_mendedOn, Cond.selects RX7 yX7_mendedOn yX7_mendedOn, Cond.code yX7_mendedOn cX7_mendedOn 4 (some .int), Cond.methodLink RX7 54 yX7_isWeak, Cond.instanceMethod yX7_isWeak, Cond.selects RX7 yX7_isWeak yX7_isWeak, Cond.code yX7_isWeak cX7_isWeak 2 (some .boolean), Cond.methodLink RX7 47 yX8_has, Cond.methodLink RX10 147 yX8_at, Cond.methodLink RL 41 yX11_reel, Cond.instanceMethod yX11_reel, Cond.selects RX11 yX11_reel yX11_reel, Cond.code yX11_reel cX11_reel 3 (some .int), Cond.methodLink RX11 327 yX11_isReel, Cond.instanceMethod yX11_isReel]
theorem gU27_ : GoodIn lw_tbl wU27 := goodIn_r _ [800, 801, 802, 803, 804, 805, 806, 807, 808, 809, 810, 811, 812, 813, 814, 815, 816, 817, 1700, 1701, 1702, 1703, 1704, 1706] (by decide +kernel) (by decide +kernel)
def wU28 : List Cond := [Cond.selects RX11 yX11_isReel yX11_isReel, Cond.code yX11_isReel cX11_isReel 2 (some .boolean), Cond.methodLink RX11 330 yX11_marksOf, Cond.instanceMethod yX11_marksOf, Cond.selects RX11 yX11_marksOf yX11_marksOf, Cond.code yX11_marksOf cX11_marksOf 4 (some .int), Cond.methodLink RX11 333 yX11_joinsOf, Cond.instanceMethod yX11_joinsOf, Cond.selects RX11 yX11_joinsOf yX11_joinsOf, Cond.code yX11_joinsOf cX11_joinsOf 4 (some .int), Cond.methodLink RX11 339 yX11_isMended, Cond.instanceMethod yX11_isMended, Cond.selects RX11 yX11_isMended yX11_isMended, Cond.code yX11_isMended cX11_isMended 2 (some .boolean), Cond.methodLink RX11 320 yX11_hasBit, Cond.static yX11_hasBit, Cond.code yX11_hasBit cX11_hasBit 2 (some .boolean), Cond.methodLink RX11 336 yX11_weaksOf, Cond.instanceMethod yX11_weaksOf, Cond.selects RX11 yX11_weaksOf yX11_weaksOf, Cond.code yX11_weaksOf cX11_weaksOf 4 (some .int), Cond.methodLink RL 42 yX10_mark, Cond.instanceMethod yX10_mark, Cond.selects RX10 yX10_mark yX10_mark]
theorem gU28_ : GoodIn lw_tbl wU28 := goodIn_r _ [86, 1707, 1708, 1710, 87, 1711, 1712, 1714, 88, 1715, 1716, 1718, 89, 1719, 1720, 1721, 1722, 1723, 1725, 90, 1726, 818, 819, 820] (by decide +kernel) (by decide +kernel)
def wU29 : List Cond := [Cond.code yX10_mark cX10_mark 3 (some .int), Cond.fieldLink RX10 150 "ReelChange$House" "towns" "LReelChange$Table;", Cond.methodLink RX10 153 yX7_markBy, Cond.methodLink RL 45 yX11_mark, Cond.instanceMethod yX11_mark, Cond.selects RX11 yX11_mark yX11_mark, Cond.code yX11_mark cX11_mark 3 (some .int), Cond.methodLink RX11 342 yX11_markOf, Cond.instanceMethod yX11_markOf, Cond.selects RX11 yX11_markOf yX11_markOf, Cond.code yX11_markOf cX11_markOf 4 (some .int), Cond.methodLink RL 46 yX10_shows, Cond.instanceMethod yX10_shows, Cond.selects RX10 yX10_shows yX10_shows, Cond.code yX10_shows cX10_shows 2 (some .int), Cond.methodLink RX10 156 yX10_ofPlace, Cond.instanceMethod yX10_ofPlace, Cond.selects RX10 yX10_ofPlace yX10_ofPlace, Cond.code yX10_ofPlace cX10_ofPlace 3 (some .int), Cond.methodLink RL 49 yX11_shows, Cond.instanceMethod yX11_shows, Cond.selects RX11 yX11_shows yX11_shows, Cond.code yX11_shows cX11_shows 2 (some .int), Cond.methodLink RX11 345 yX11_isPlace]
theorem gU29_ : GoodIn lw_tbl wU29 := goodIn_r _ [821, 248, 822, 1727, 1728, 1729, 1730, 1731, 1733, 91, 1734, 823, 824, 825, 826, 827, 829, 29, 830, 1735, 1736, 1737, 1738, 1739] (by decide +kernel) (by decide +kernel)
def wU30 : List Cond := [Cond.instanceMethod yX11_isPlace, Cond.selects RX11 yX11_isPlace yX11_isPlace, Cond.code yX11_isPlace cX11_isPlace 2 (some .boolean), Cond.methodLink RX11 324 yX11_reelAt, Cond.instanceMethod yX11_reelAt, Cond.selects RX11 yX11_reelAt yX11_reelAt, Cond.code yX11_reelAt cX11_reelAt 2 (some .int), Cond.methodLink RL 50 yX10_thread, Cond.instanceMethod yX10_thread, Cond.selects RX10 yX10_thread yX10_thread, Cond.code yX10_thread cX10_thread 2 (some .int), Cond.methodLink RL 53 yX11_thread, Cond.instanceMethod yX11_thread, Cond.selects RX11 yX11_thread yX11_thread, Cond.code yX11_thread cX11_thread 2 (some .int), Cond.methodLink RL 54 yX10_believes, Cond.instanceMethod yX10_believes, Cond.selects RX10 yX10_believes yX10_believes, Cond.code yX10_believes cX10_believes 3 (some .int), Cond.methodLink RX10 159 yX10_ofNight, Cond.instanceMethod yX10_ofNight, Cond.selects RX10 yX10_ofNight yX10_ofNight, Cond.code yX10_ofNight cX10_ofNight 4 (some .int), Cond.fieldLink RX10 381 "ReelChange$Night" "rows" "LReelChange$Table;"]
theorem gU30_ : GoodIn lw_tbl wU30 := goodIn_r _ [1741, 92, 1742, 1743, 1745, 93, 1746, 831, 832, 833, 834, 1747, 1748, 1749, 1750, 835, 836, 837, 838, 839, 841, 30, 842, 380] (by decide +kernel) (by decide +kernel)
def wU31 : List Cond := [Cond.methodLink RX10 163 yX10_runNight, Cond.instanceMethod yX10_runNight, Cond.selects RX10 yX10_runNight yX10_runNight, Cond.code yX10_runNight cX10_runNight 2 (some .boolean), Cond.fieldLink RX10 191 "ReelChange$House" "men" "LReelChange$Table;", Cond.methodLink RX10 321 yX5_meet, Cond.instanceMethod yX5_meet, Cond.selects RX5 yX5_meet yX5_meet, Cond.code yX5_meet cX5_meet 5 none, Cond.fieldLink RX5 46 "ReelChange$State" "places" "LReelChange$Table;", Cond.fieldLink RX5 51 "ReelChange$Table" "count" "I", Cond.fieldLink RX5 54 "ReelChange$House" "men" "LReelChange$Table;", Cond.methodLink RX5 63 Lib.Math.max.name, Cond.methodLink RX5 59 yX8_at, Cond.methodLink RX5 68 yX7_reelAt, Cond.instanceMethod yX7_reelAt, Cond.selects RX7 yX7_reelAt yX7_reelAt, Cond.code yX7_reelAt cX7_reelAt 2 (some .int), Cond.methodLink RX5 72 yX7_believedBy, Cond.instanceMethod yX7_believedBy, Cond.selects RX7 yX7_believedBy yX7_believedBy, Cond.code yX7_believedBy cX7_believedBy 8 (some .int), Cond.methodLink RX5 76 yX8_put, Cond.methodLink RX10 197 yX5_slipBy]
theorem gU31_ : GoodIn lw_tbl wU31 := goodIn_r _ [843, 845, 31, 846, 256, 847, 848, 849, 850, 219, 189, 254, 852, 851, 853, 854, 855, 856, 857, 858, 859, 860, 861, 862] (by decide +kernel) (by decide +kernel)
def wU32 : List Cond := [Cond.instanceMethod yX5_slipBy, Cond.selects RX5 yX5_slipBy yX5_slipBy, Cond.code yX5_slipBy cX5_slipBy 2 none, Cond.methodLink RX10 200 yX5_run, Cond.instanceMethod yX5_run, Cond.selects RX5 yX5_run yX5_run, Cond.code yX5_run cX5_run 5 none, Cond.fieldLink RX5 80 "ReelChange$State" "reels" "LReelChange$Table;", Cond.methodLink RX5 83 yX5_goBy, Cond.instanceMethod yX5_goBy, Cond.selects RX5 yX5_goBy yX5_goBy, Cond.code yX5_goBy cX5_goBy 3 none, Cond.methodLink RX5 86 yX5_showReel, Cond.instanceMethod yX5_showReel, Cond.selects RX5 yX5_showReel yX5_showReel, Cond.code yX5_showReel cX5_showReel 11 none, Cond.methodLink RX5 98 Lib.Math.min.name, Cond.static Lib.Math.min.name, Cond.code Lib.Math.min.name Lib.Math.min.code 2 (some .int), Cond.methodLink RX5 94 yX5_slipNow, Cond.instanceMethod yX5_slipNow, Cond.selects RX5 yX5_slipNow yX5_slipNow, Cond.code yX5_slipNow cX5_slipNow 1 (some .int), Cond.methodLink RX5 104 yX5_draw]
theorem gU32_ : GoodIn lw_tbl wU32 := goodIn_r _ [863, 864, 865, 866, 867, 868, 869, 208, 870, 872, 32, 873, 874, 876, 33, 877, 887, 888, 889, 878, 880, 34, 881, 882] (by decide +kernel) (by decide +kernel)
def wU33 : List Cond := [Cond.instanceMethod yX5_draw, Cond.selects RX5 yX5_draw yX5_draw, Cond.code yX5_draw cX5_draw 1 (some .int), Cond.constant RX5 114 (65537), Cond.methodLink RX5 101 yX3_number, Cond.methodLink RX5 90 yX5_snapWeakPlaces, Cond.instanceMethod yX5_snapWeakPlaces, Cond.selects RX5 yX5_snapWeakPlaces yX5_snapWeakPlaces, Cond.code yX5_snapWeakPlaces cX5_snapWeakPlaces 5 none, Cond.fieldLink RX5 107 "ReelChange$State" "weaks" "LReelChange$Table;", Cond.methodLink RX5 110 yX7_isWeak, Cond.methodLink RL 57 yX11_believes, Cond.instanceMethod yX11_believes, Cond.selects RX11 yX11_believes yX11_believes, Cond.code yX11_believes cX11_believes 3 (some .int), Cond.methodLink RX11 376 yX11_canTell, Cond.instanceMethod yX11_canTell, Cond.selects RX11 yX11_canTell yX11_canTell, Cond.code yX11_canTell cX11_canTell 3 (some .boolean), Cond.methodLink RX11 370 yX11_isMan, Cond.instanceMethod yX11_isMan, Cond.selects RX11 yX11_isMan yX11_isMan, Cond.code yX11_isMan cX11_isMan 2 (some .boolean), Cond.methodLink RX11 373 yX11_layTold]
theorem gU33_ : GoodIn lw_tbl wU33 := goodIn_r _ [884, 35, 885, 886, 890, 891, 893, 36, 894, 216, 895, 1751, 1752, 1753, 1754, 1755, 1757, 94, 1758, 1759, 1761, 95, 1762, 1763] (by decide +kernel) (by decide +kernel)
def wU34 : List Cond := [Cond.instanceMethod yX11_layTold, Cond.selects RX11 yX11_layTold yX11_layTold, Cond.code yX11_layTold cX11_layTold 3 none, Cond.methodLink RX11 367 yX11_layNight, Cond.instanceMethod yX11_layNight, Cond.selects RX11 yX11_layNight yX11_layNight, Cond.code yX11_layNight cX11_layNight 6 none, Cond.methodLink RX11 354 yX11_framesAt, Cond.instanceMethod yX11_framesAt, Cond.selects RX11 yX11_framesAt yX11_framesAt, Cond.code yX11_framesAt cX11_framesAt 2 (some .int), Cond.methodLink RX11 357 yX11_isGone, Cond.instanceMethod yX11_isGone, Cond.selects RX11 yX11_isGone yX11_isGone, Cond.code yX11_isGone cX11_isGone 2 (some .boolean), Cond.methodLink RX11 360 yX11_follows, Cond.instanceMethod yX11_follows, Cond.selects RX11 yX11_follows yX11_follows, Cond.code yX11_follows cX11_follows 7 none, Cond.methodLink RX11 364 yX11_believesOf, Cond.instanceMethod yX11_believesOf, Cond.selects RX11 yX11_believesOf yX11_believesOf, Cond.code yX11_believesOf cX11_believesOf 7 (some .int), Cond.methodLink RX11 348 yX11_least]
theorem gU34_ : GoodIn lw_tbl wU34 := goodIn_r _ [1765, 96, 1766, 1767, 1769, 97, 1770, 1771, 1773, 98, 1774, 1775, 1777, 99, 1778, 1779, 1781, 100, 1782, 1783, 1785, 101, 1786, 1787] (by decide +kernel) (by decide +kernel)
def wU35 : List Cond := [Cond.static yX11_least, Cond.code yX11_least cX11_least 2 (some .int), Cond.methodLink RX11 351 yX11_most, Cond.static yX11_most, Cond.code yX11_most cX11_most 2 (some .int), Cond.methodLink RL 58 yX10_starts, Cond.instanceMethod yX10_starts, Cond.selects RX10 yX10_starts yX10_starts, Cond.code yX10_starts cX10_starts 3 (some .int), Cond.methodLink RL 61 yX11_starts, Cond.instanceMethod yX11_starts, Cond.selects RX11 yX11_starts yX11_starts, Cond.code yX11_starts cX11_starts 3 (some .int), Cond.methodLink RL 62 yX10_changes, Cond.instanceMethod yX10_changes, Cond.selects RX10 yX10_changes yX10_changes, Cond.code yX10_changes cX10_changes 3 (some .int), Cond.methodLink RL 65 yX11_changes, Cond.instanceMethod yX11_changes, Cond.selects RX11 yX11_changes yX11_changes, Cond.code yX11_changes cX11_changes 3 (some .int), Cond.methodLink RL 66 yX10_lost, Cond.instanceMethod yX10_lost, Cond.selects RX10 yX10_lost yX10_lost]
theorem gU35_ : GoodIn lw_tbl wU35 := goodIn_r _ [1788, 1789, 1790, 1791, 1792, 896, 897, 898, 899, 1793, 1794, 1795, 1796, 900, 901, 902, 903, 1797, 1798, 1799, 1800, 904, 905, 906] (by decide +kernel) (by decide +kernel)
def wU36 : List Cond := [Cond.code yX10_lost cX10_lost 3 (some .int), Cond.methodLink RL 69 yX11_lost, Cond.instanceMethod yX11_lost, Cond.selects RX11 yX11_lost yX11_lost, Cond.code yX11_lost cX11_lost 3 (some .int), Cond.methodLink RL 70 yX10_black, Cond.instanceMethod yX10_black, Cond.selects RX10 yX10_black yX10_black, Cond.code yX10_black cX10_black 3 (some .int), Cond.methodLink RL 73 yX11_black, Cond.instanceMethod yX11_black, Cond.selects RX11 yX11_black yX11_black, Cond.code yX11_black cX11_black 3 (some .int), Cond.methodLink RL 74 yX10_tail, Cond.instanceMethod yX10_tail, Cond.selects RX10 yX10_tail yX10_tail, Cond.code yX10_tail cX10_tail 3 (some .int), Cond.methodLink RL 77 yX11_tail, Cond.instanceMethod yX11_tail, Cond.selects RX11 yX11_tail yX11_tail, Cond.code yX11_tail cX11_tail 3 (some .int), Cond.methodLink RX11 379 yX11_tailOf, Cond.instanceMethod yX11_tailOf, Cond.selects RX11 yX11_tailOf yX11_tailOf]
theorem gU36_ : GoodIn lw_tbl wU36 := goodIn_r _ [907, 1801, 1802, 1803, 1804, 908, 909, 910, 911, 1805, 1806, 1807, 1808, 912, 913, 914, 915, 1809, 1810, 1811, 1812, 1813, 1815, 102] (by decide +kernel) (by decide +kernel)
def wU37 : List Cond := [Cond.code yX11_tailOf cX11_tailOf 2 (some .int), Cond.methodLink RL 78 yX10_begins, Cond.instanceMethod yX10_begins, Cond.selects RX10 yX10_begins yX10_begins, Cond.code yX10_begins cX10_begins 3 (some .int), Cond.methodLink RL 81 yX11_begins, Cond.instanceMethod yX11_begins, Cond.selects RX11 yX11_begins yX11_begins, Cond.code yX11_begins cX11_begins 3 (some .int), Cond.methodLink RL 82 yX10_length, Cond.instanceMethod yX10_length, Cond.selects RX10 yX10_length yX10_length, Cond.code yX10_length cX10_length 2 (some .int), Cond.methodLink RX10 166 yX5_endTick, Cond.instanceMethod yX5_endTick, Cond.selects RX5 yX5_endTick yX5_endTick, Cond.code yX5_endTick cX5_endTick 1 (some .int), Cond.methodLink RL 85 yX11_length, Cond.instanceMethod yX11_length, Cond.selects RX11 yX11_length yX11_length, Cond.code yX11_length cX11_length 2 (some .int), Cond.methodLink RL 86 yX10_all, Cond.instanceMethod yX10_all, Cond.selects RX10 yX10_all yX10_all]
theorem gU37_ : GoodIn lw_tbl wU37 := goodIn_r _ [1816, 916, 917, 918, 919, 1817, 1818, 1819, 1820, 920, 921, 922, 923, 924, 925, 926, 927, 1821, 1822, 1823, 1824, 928, 929, 930] (by decide +kernel) (by decide +kernel)
def wU38 : List Cond := [Cond.code yX10_all cX10_all 3 (some .int), Cond.methodLink RX10 170 yX5_sum, Cond.instanceMethod yX5_sum, Cond.selects RX5 yX5_sum yX5_sum, Cond.code yX5_sum cX5_sum 4 (some .int), Cond.methodLink RL 89 yX11_all, Cond.instanceMethod yX11_all, Cond.selects RX11 yX11_all yX11_all, Cond.code yX11_all cX11_all 3 (some .int), Cond.methodLink RX11 382 yX11_sumOf, Cond.instanceMethod yX11_sumOf, Cond.selects RX11 yX11_sumOf yX11_sumOf, Cond.code yX11_sumOf cX11_sumOf 4 (some .int), Cond.methodLink RL 90 yX10_worst, Cond.instanceMethod yX10_worst, Cond.selects RX10 yX10_worst yX10_worst, Cond.code yX10_worst cX10_worst 2 (some .int), Cond.methodLink RX10 173 yX5_worstChange, Cond.instanceMethod yX5_worstChange, Cond.selects RX5 yX5_worstChange yX5_worstChange, Cond.code yX5_worstChange cX5_worstChange 5 (some .int), Cond.methodLink RL 93 yX11_worst, Cond.instanceMethod yX11_worst, Cond.selects RX11 yX11_worst yX11_worst]
theorem gU38_ : GoodIn lw_tbl wU38 := goodIn_r _ [931, 932, 933, 934, 935, 1825, 1826, 1827, 1828, 1829, 1831, 103, 1832, 936, 937, 938, 939, 940, 941, 942, 943, 1833, 1834, 1835] (by decide +kernel) (by decide +kernel)
def wU39 : List Cond := [Cond.code yX11_worst cX11_worst 6 (some .int), Cond.methodLink RL 94 yX10_exact, Cond.instanceMethod yX10_exact, Cond.selects RX10 yX10_exact yX10_exact, Cond.code yX10_exact cX10_exact 3 (some .int), Cond.methodLink RX10 176 yX5_exactThread, Cond.instanceMethod yX5_exactThread, Cond.selects RX5 yX5_exactThread yX5_exactThread, Cond.code yX5_exactThread cX5_exactThread 4 (some .int), Cond.methodLink RL 97 yX11_exact, Cond.instanceMethod yX11_exact, Cond.selects RX11 yX11_exact yX11_exact, Cond.code yX11_exact cX11_exact 3 (some .int), Cond.methodLink RL 98 yX10_signs, Cond.instanceMethod yX10_signs, Cond.selects RX10 yX10_signs yX10_signs, Cond.code yX10_signs cX10_signs 2 (some .int), Cond.methodLink RX10 180 yX5_signsSo, Cond.instanceMethod yX5_signsSo, Cond.selects RX5 yX5_signsSo yX5_signsSo, Cond.code yX5_signsSo cX5_signsSo 5 (some .int), Cond.fieldLink RX5 118 "ReelChange$House" "signs" "LReelChange$Table;", Cond.methodLink RL 101 yX11_signs, Cond.instanceMethod yX11_signs]
theorem gU39_ : GoodIn lw_tbl wU39 := goodIn_r _ [1836, 944, 945, 946, 947, 948, 949, 950, 951, 1837, 1838, 1839, 1840, 952, 953, 954, 955, 956, 957, 958, 959, 261, 1932, 1933] (by decide +kernel) (by decide +kernel)
def wU40 : List Cond := [Cond.selects RX11 yX11_signs yX11_signs, Cond.code yX11_signs cX11_signs 2 (some .int), Cond.methodLink RX11 422 yX11_signsOf, Cond.instanceMethod yX11_signsOf, Cond.selects RX11 yX11_signsOf yX11_signsOf, Cond.code yX11_signsOf cX11_signsOf 5 (some .int), Cond.methodLink RL 102 yX10_fits, Cond.instanceMethod yX10_fits, Cond.selects RX10 yX10_fits yX10_fits, Cond.code yX10_fits cX10_fits 4 (some .int), Cond.fieldLink RX10 188 "ReelChange$House" "signs" "LReelChange$Table;", Cond.methodLink RX10 184 yX10_isOpen, Cond.instanceMethod yX10_isOpen, Cond.selects RX10 yX10_isOpen yX10_isOpen, Cond.code yX10_isOpen cX10_isOpen 1 (some .boolean), Cond.methodLink RL 105 yX11_fits, Cond.instanceMethod yX11_fits, Cond.selects RX11 yX11_fits yX11_fits, Cond.code yX11_fits cX11_fits 3 (some .int), Cond.methodLink RL 106 yX10_bestSlip, Cond.instanceMethod yX10_bestSlip, Cond.selects RX10 yX10_bestSlip yX10_bestSlip, Cond.code yX10_bestSlip cX10_bestSlip 2 (some .int), Cond.methodLink RX10 194 yX10_leastSlip]
theorem gU40_ : GoodIn lw_tbl wU40 := goodIn_r _ [1934, 1935, 1936, 1938, 111, 1939, 960, 961, 962, 963, 263, 964, 966, 37, 967, 1940, 1941, 1942, 1943, 968, 969, 970, 971, 972] (by decide +kernel) (by decide +kernel)
def wU41 : List Cond := [Cond.instanceMethod yX10_leastSlip, Cond.selects RX10 yX10_leastSlip yX10_leastSlip, Cond.code yX10_leastSlip cX10_leastSlip 6 (some .int), Cond.constant RX10 333 (2147483647), Cond.methodLink RX10 204 yX5_waste, Cond.instanceMethod yX5_waste, Cond.selects RX5 yX5_waste yX5_waste, Cond.code yX5_waste cX5_waste 1 (some .int), Cond.methodLink RX5 115 yX5_sum, Cond.methodLink RL 109 yX11_bestSlip, Cond.instanceMethod yX11_bestSlip, Cond.selects RX11 yX11_bestSlip yX11_bestSlip, Cond.code yX11_bestSlip cX11_bestSlip 2 (some .int), Cond.methodLink RX11 428 yX11_bestSlipOf, Cond.instanceMethod yX11_bestSlipOf, Cond.selects RX11 yX11_bestSlipOf yX11_bestSlipOf, Cond.code yX11_bestSlipOf cX11_bestSlipOf 5 (some .int), Cond.fieldLink RX11 425 "ReelChangeModel" "bestSum" "I", Cond.methodLink RL 110 yX10_bySlip, Cond.instanceMethod yX10_bySlip, Cond.selects RX10 yX10_bySlip yX10_bySlip, Cond.code yX10_bySlip cX10_bySlip 2 (some .int), Cond.methodLink RL 113 yX11_bySlip, Cond.instanceMethod yX11_bySlip]
theorem gU41_ : GoodIn lw_tbl wU41 := goodIn_r _ [974, 38, 975, 976, 977, 978, 979, 980, 981, 1944, 1945, 1946, 1947, 1948, 1950, 112, 1951, 1413, 982, 983, 984, 985, 1952, 1953] (by decide +kernel) (by decide +kernel)
def wU42 : List Cond := [Cond.selects RX11 yX11_bySlip yX11_bySlip, Cond.code yX11_bySlip cX11_bySlip 2 (some .int), Cond.methodLink RL 114 yX10_needs, Cond.instanceMethod yX10_needs, Cond.selects RX10 yX10_needs yX10_needs, Cond.code yX10_needs cX10_needs 3 (some .int), Cond.methodLink RX10 207 yX5_needed, Cond.instanceMethod yX5_needed, Cond.selects RX5 yX5_needed yX5_needed, Cond.code yX5_needed cX5_needed 2 (some .int), Cond.methodLink RL 117 yX11_needs, Cond.instanceMethod yX11_needs, Cond.selects RX11 yX11_needs yX11_needs, Cond.code yX11_needs cX11_needs 3 (some .int), Cond.methodLink RX11 388 yX11_needsOf, Cond.instanceMethod yX11_needsOf, Cond.selects RX11 yX11_needsOf yX11_needsOf, Cond.code yX11_needsOf cX11_needsOf 2 (some .int), Cond.methodLink RL 118 yX10_dies, Cond.instanceMethod yX10_dies, Cond.selects RX10 yX10_dies yX10_dies, Cond.code yX10_dies cX10_dies 3 (some .int), Cond.fieldLink RX10 210 "ReelChange$State" "trims" "I", Cond.fieldLink RX10 217 "ReelChange$Arcs" "dying" "I"]
theorem gU42_ : GoodIn lw_tbl wU42 := goodIn_r _ [1954, 1955, 986, 987, 988, 989, 990, 991, 992, 993, 1841, 1842, 1843, 1844, 1845, 1847, 104, 1848, 994, 995, 996, 997, 226, 420] (by decide +kernel) (by decide +kernel)
def wU43 : List Cond := [Cond.methodLink RX10 213 yX0_burn, Cond.instanceMethod yX0_burn, Cond.selects RX0 yX0_burn yX0_burn, Cond.code yX0_burn cX0_burn 9 none, Cond.fieldLink RX0 30 "ReelChange$Night" "rows" "LReelChange$Table;", Cond.fieldLink RX0 35 "ReelChange$Table" "count" "I", Cond.methodLink RX0 24 yX3_number, Cond.methodLink RX0 38 yX8_at, Cond.methodLink RX0 42 yX5_idle, Cond.instanceMethod yX5_idle, Cond.selects RX5 yX5_idle yX5_idle, Cond.code yX5_idle cX5_idle 2 (some .int), Cond.methodLink RX0 45 yX5_needed, Cond.methodLink RX0 48 yX8_put, Cond.methodLink RL 121 yX11_dies, Cond.instanceMethod yX11_dies, Cond.selects RX11 yX11_dies yX11_dies, Cond.code yX11_dies cX11_dies 3 (some .int), Cond.methodLink RX11 391 yX11_burn, Cond.instanceMethod yX11_burn, Cond.selects RX11 yX11_burn yX11_burn, Cond.code yX11_burn cX11_burn 6 (some .boolean), Cond.methodLink RX11 385 yX11_freeOf, Cond.instanceMethod yX11_freeOf]
theorem gU43_ : GoodIn lw_tbl wU43 := goodIn_r _ [998, 999, 1000, 1001, 378, 191, 1002, 1003, 1004, 1005, 1006, 1007, 1008, 1009, 1849, 1850, 1851, 1852, 1853, 1855, 105, 1856, 1857, 1859] (by decide +kernel) (by decide +kernel)
def wU44 : List Cond := [Cond.selects RX11 yX11_freeOf yX11_freeOf, Cond.code yX11_freeOf cX11_freeOf 2 (some .int), Cond.methodLink RL 122 yX10_firstDies, Cond.instanceMethod yX10_firstDies, Cond.selects RX10 yX10_firstDies yX10_firstDies, Cond.code yX10_firstDies cX10_firstDies 2 (some .int), Cond.methodLink RX10 220 yX0_firstDying, Cond.instanceMethod yX0_firstDying, Cond.selects RX0 yX0_firstDying yX0_firstDying, Cond.code yX0_firstDying cX0_firstDying 2 (some .int), Cond.fieldLink RX0 52 "ReelChange$Table" "room" "I", Cond.methodLink RL 125 yX11_firstDies, Cond.instanceMethod yX11_firstDies, Cond.selects RX11 yX11_firstDies yX11_firstDies, Cond.code yX11_firstDies cX11_firstDies 3 (some .int), Cond.methodLink RL 126 yX10_free, Cond.instanceMethod yX10_free, Cond.selects RX10 yX10_free yX10_free, Cond.code yX10_free cX10_free 3 (some .int), Cond.methodLink RX10 223 yX5_idle, Cond.methodLink RL 129 yX11_free, Cond.instanceMethod yX11_free, Cond.selects RX11 yX11_free yX11_free, Cond.code yX11_free cX11_free 3 (some .int)]
theorem gU44_ : GoodIn lw_tbl wU44 := goodIn_r _ [106, 1860, 1010, 1011, 1012, 1013, 1014, 1015, 1016, 1017, 184, 1861, 1862, 1863, 1864, 1018, 1019, 1020, 1021, 1022, 1869, 1870, 1871, 1872] (by decide +kernel) (by decide +kernel)
def wU45 : List Cond := [Cond.methodLink RL 130 yX10_arc, Cond.instanceMethod yX10_arc, Cond.selects RX10 yX10_arc yX10_arc, Cond.code yX10_arc cX10_arc 3 (some .int), Cond.fieldLink RX10 226 "ReelChange$Arcs" "left" "LReelChange$Table;", Cond.methodLink RL 133 yX11_arc, Cond.instanceMethod yX11_arc, Cond.selects RX11 yX11_arc yX11_arc, Cond.code yX11_arc cX11_arc 3 (some .int), Cond.methodLink RL 134 yX10_never, Cond.instanceMethod yX10_never, Cond.selects RX10 yX10_never yX10_never, Cond.code yX10_never cX10_never 2 (some .int), Cond.methodLink RX10 229 yX0_fewestTrims, Cond.instanceMethod yX0_fewestTrims, Cond.selects RX0 yX0_fewestTrims yX0_fewestTrims, Cond.code yX0_fewestTrims cX0_fewestTrims 6 (some .int), Cond.constant RX0 57 (2147483647), Cond.methodLink RX0 58 yJ6_bitCount_0f7a4, Cond.static yJ6_bitCount_0f7a4, Cond.initialized RJ6, Cond.code yJ6_bitCount_0f7a4 cJ6_bitCount_0f7a4 1 (some .int), Cond.constant RJ6 265 (1431655765), Cond.constant RJ6 266 (858993459)]
theorem gU45_ : GoodIn lw_tbl wU45 := goodIn_r _ [1023, 1024, 1025, 1026, 418, 1865, 1866, 1867, 1868, 1027, 1028, 1029, 1030, 1031, 1032, 1033, 1034, 1035, 1036, 1037, 143, 1038, 1039, 1040] (by decide +kernel) (by decide +kernel)
def wU46 : List Cond := [Cond.constant RJ6 267 (252645135), Cond.methodLink RX0 61 yX0_burn, Cond.methodLink RL 137 yX11_never, Cond.instanceMethod yX11_never, Cond.selects RX11 yX11_never yX11_never, Cond.code yX11_never cX11_never 4 (some .int), Cond.methodLink RX11 394 yX11_ones, Cond.static yX11_ones, Cond.code yX11_ones cX11_ones 3 (some .int), Cond.methodLink RL 138 yX10_truly, Cond.instanceMethod yX10_truly, Cond.selects RX10 yX10_truly yX10_truly, Cond.code yX10_truly cX10_truly 4 (some .long), Cond.methodLink RX10 233 yX7_isMeantPerhaps, Cond.instanceMethod yX7_isMeantPerhaps, Cond.selects RX7 yX7_isMeantPerhaps yX7_isMeantPerhaps, Cond.code yX7_isMeantPerhaps cX7_isMeantPerhaps 3 (some .boolean), Cond.methodLink RX7 57 yX7_isMarked, Cond.instanceMethod yX7_isMarked, Cond.selects RX7 yX7_isMarked yX7_isMarked, Cond.code yX7_isMarked cX7_isMarked 5 (some .boolean), Cond.methodLink RX10 237 yX7_weight, Cond.instanceMethod yX7_weight, Cond.selects RX7 yX7_weight yX7_weight]
theorem gU46_ : GoodIn lw_tbl wU46 := goodIn_r _ [1041, 1042, 1873, 1874, 1875, 1876, 1877, 1878, 1879, 1043, 1044, 1045, 1046, 1047, 1048, 1049, 1050, 1051, 1053, 39, 1054, 1055, 1056, 1057] (by decide +kernel) (by decide +kernel)
def wU47 : List Cond := [Cond.code yX7_weight cX7_weight 7 (some .int), Cond.methodLink RX7 61 Lib.Math.abs.name, Cond.static Lib.Math.abs.name, Cond.code Lib.Math.abs.name Lib.Math.abs.code 1 (some .int), Cond.methodLink RX10 241 yX7_allWeights, Cond.instanceMethod yX7_allWeights, Cond.selects RX7 yX7_allWeights yX7_allWeights, Cond.code yX7_allWeights cX7_allWeights 6 (some .int), Cond.methodLink RX7 67 yX7_weight, Cond.methodLink RX10 245 yX2_set, Cond.instanceMethod yX2_set, Cond.selects RX2 yX2_set yX2_set, Cond.code yX2_set cX2_set 5 none, Cond.methodLink RX10 249 yX10_tellPart, Cond.instanceMethod yX10_tellPart, Cond.selects RX10 yX10_tellPart yX10_tellPart, Cond.code yX10_tellPart cX10_tellPart 2 (some .long), Cond.fieldLink RX10 280 "ReelChange$Fraction" "lower" "J", Cond.fieldLink RX10 284 "ReelChange$Fraction" "upper" "J", Cond.methodLink RX10 378 yX2_reduce, Cond.instanceMethod yX2_reduce, Cond.selects RX2 yX2_reduce yX2_reduce, Cond.code yX2_reduce cX2_reduce 8 none, Cond.methodLink RL 142 yX11_truly]
theorem gU47_ : GoodIn lw_tbl wU47 := goodIn_r _ [1058, 1059, 1060, 1061, 1062, 1063, 1064, 1065, 1066, 1067, 1068, 1069, 1070, 1071, 1073, 40, 1074, 473, 471, 1075, 1076, 1077, 1078, 1880] (by decide +kernel) (by decide +kernel)
def wU48 : List Cond := [Cond.instanceMethod yX11_truly, Cond.selects RX11 yX11_truly yX11_truly, Cond.code yX11_truly cX11_truly 4 (some .long), Cond.methodLink RX11 397 yX11_isDot, Cond.instanceMethod yX11_isDot, Cond.selects RX11 yX11_isDot yX11_isDot, Cond.code yX11_isDot cX11_isDot 5 (some .boolean), Cond.methodLink RX11 400 yX11_weightOf, Cond.instanceMethod yX11_weightOf, Cond.selects RX11 yX11_weightOf yX11_weightOf, Cond.code yX11_weightOf cX11_weightOf 7 (some .long), Cond.methodLink RX11 404 yX11_allWeights, Cond.instanceMethod yX11_allWeights, Cond.selects RX11 yX11_allWeights yX11_allWeights, Cond.code yX11_allWeights cX11_allWeights 5 (some .long), Cond.methodLink RX11 408 yX11_lowest, Cond.static yX11_lowest, Cond.code yX11_lowest cX11_lowest 11 (some .long), Cond.methodLink RL 143 yX10_likeliest, Cond.instanceMethod yX10_likeliest, Cond.selects RX10 yX10_likeliest yX10_likeliest, Cond.code yX10_likeliest cX10_likeliest 2 (some .int), Cond.methodLink RX10 253 yX7_likeliestFrame, Cond.instanceMethod yX7_likeliestFrame]
theorem gU48_ : GoodIn lw_tbl wU48 := goodIn_r _ [1881, 1882, 1883, 1884, 1886, 107, 1887, 1888, 1890, 108, 1891, 1892, 1894, 109, 1895, 1896, 1897, 1898, 1079, 1080, 1081, 1082, 1083, 1084] (by decide +kernel) (by decide +kernel)
def wU49 : List Cond := [Cond.selects RX7 yX7_likeliestFrame yX7_likeliestFrame, Cond.code yX7_likeliestFrame cX7_likeliestFrame 8 (some .int), Cond.methodLink RL 146 yX11_likeliest, Cond.instanceMethod yX11_likeliest, Cond.selects RX11 yX11_likeliest yX11_likeliest, Cond.code yX11_likeliest cX11_likeliest 4 (some .int), Cond.methodLink RL 147 yX10_who, Cond.instanceMethod yX10_who, Cond.selects RX10 yX10_who yX10_who, Cond.code yX10_who cX10_who 3 (some .int), Cond.fieldLink RX10 256 "ReelChange$House" "scratches" "LReelChange$Table;", Cond.methodLink RX10 259 yX10_nearestMark, Cond.instanceMethod yX10_nearestMark, Cond.selects RX10 yX10_nearestMark yX10_nearestMark, Cond.code yX10_nearestMark cX10_nearestMark 5 (some .int), Cond.methodLink RX10 262 yX10_farFrom, Cond.instanceMethod yX10_farFrom, Cond.selects RX10 yX10_farFrom yX10_farFrom, Cond.code yX10_farFrom cX10_farFrom 5 (some .int), Cond.methodLink RX10 384 Lib.Math.abs.name, Cond.methodLink RL 150 yX11_who, Cond.instanceMethod yX11_who, Cond.selects RX11 yX11_who yX11_who, Cond.code yX11_who cX11_who 2 (some .int)]
theorem gU49_ : GoodIn lw_tbl wU49 := goodIn_r _ [1085, 1086, 1899, 1900, 1901, 1902, 1087, 1088, 1089, 1090, 266, 1091, 1093, 41, 1094, 1095, 1097, 42, 1098, 1099, 1956, 1957, 1958, 1959] (by decide +kernel) (by decide +kernel)
def wU50 : List Cond := [Cond.fieldLink RX11 434 "ReelChangeModel" "nearestTown" "I", Cond.methodLink RX11 440 yX11_layScratch, Cond.instanceMethod yX11_layScratch, Cond.selects RX11 yX11_layScratch yX11_layScratch, Cond.code yX11_layScratch cX11_layScratch 4 (some .boolean), Cond.fieldLink RX11 431 "ReelChangeModel" "nearest" "I", Cond.methodLink RX11 437 yX11_farOf, Cond.instanceMethod yX11_farOf, Cond.selects RX11 yX11_farOf yX11_farOf, Cond.code yX11_farOf cX11_farOf 8 (some .int), Cond.methodLink RL 151 yX10_far, Cond.instanceMethod yX10_far, Cond.selects RX10 yX10_far yX10_far, Cond.code yX10_far cX10_far 3 (some .int), Cond.methodLink RL 154 yX11_far, Cond.instanceMethod yX11_far, Cond.selects RX11 yX11_far yX11_far, Cond.code yX11_far cX11_far 2 (some .int), Cond.methodLink RL 155 yX10_missing, Cond.instanceMethod yX10_missing, Cond.selects RX10 yX10_missing yX10_missing, Cond.code yX10_missing cX10_missing 4 (some .int), Cond.methodLink RX10 268 Lib.Math.max.name, Cond.methodLink RX10 265 yX10_lackedBy]
theorem gU50_ : GoodIn lw_tbl wU50 := goodIn_r _ [1415, 1960, 1962, 113, 1963, 1414, 1964, 1966, 114, 1967, 1100, 1101, 1102, 1103, 1968, 1969, 1970, 1971, 1104, 1105, 1106, 1107, 1112, 1108] (by decide +kernel) (by decide +kernel)
def wU51 : List Cond := [Cond.instanceMethod yX10_lackedBy, Cond.selects RX10 yX10_lackedBy yX10_lackedBy, Cond.code yX10_lackedBy cX10_lackedBy 4 (some .int), Cond.methodLink RL 159 yX11_missing, Cond.instanceMethod yX11_missing, Cond.selects RX11 yX11_missing yX11_missing, Cond.code yX11_missing cX11_missing 5 (some .int), Cond.methodLink RL 160 yX10_words, Cond.instanceMethod yX10_words, Cond.selects RX10 yX10_words yX10_words, Cond.code yX10_words cX10_words 4 (some .int), Cond.methodLink RL 163 yX11_words, Cond.instanceMethod yX11_words, Cond.selects RX11 yX11_words yX11_words, Cond.code yX11_words cX11_words 4 (some .int), Cond.methodLink RL 164 yX10_holds, Cond.instanceMethod yX10_holds, Cond.selects RX10 yX10_holds yX10_holds, Cond.code yX10_holds cX10_holds 4 (some .long), Cond.methodLink RX10 273 yX7_isWeak, Cond.methodLink RX10 276 yX2_setPower, Cond.instanceMethod yX2_setPower, Cond.selects RX2 yX2_setPower yX2_setPower, Cond.code yX2_setPower cX2_setPower 5 none]
theorem gU51_ : GoodIn lw_tbl wU51 := goodIn_r _ [1110, 43, 1111, 1903, 1904, 1905, 1906, 1113, 1114, 1115, 1116, 1907, 1908, 1909, 1910, 1117, 1118, 1119, 1120, 1121, 1122, 1123, 1124, 1125] (by decide +kernel) (by decide +kernel)
def wU52 : List Cond := [Cond.methodLink RL 167 yX11_holds, Cond.instanceMethod yX11_holds, Cond.selects RX11 yX11_holds yX11_holds, Cond.code yX11_holds cX11_holds 4 (some .long), Cond.methodLink RX11 412 yX11_isWeak, Cond.instanceMethod yX11_isWeak, Cond.selects RX11 yX11_isWeak yX11_isWeak, Cond.code yX11_isWeak cX11_isWeak 2 (some .boolean), Cond.methodLink RX11 415 yX11_power, Cond.static yX11_power, Cond.code yX11_power cX11_power 5 (some .long), Cond.methodLink RL 168 yX10_pays, Cond.instanceMethod yX10_pays, Cond.selects RX10 yX10_pays yX10_pays, Cond.code yX10_pays cX10_pays 5 (some .int), Cond.constantLong RX10 290 (2), Cond.methodLink RX10 287 yX3_number, Cond.methodLink RL 171 yX11_pays, Cond.instanceMethod yX11_pays, Cond.selects RX11 yX11_pays yX11_pays, Cond.code yX11_pays cX11_pays 5 (some .int), Cond.constantLong RX11 418 (2), Cond.methodLink RL 172 yX10_wears, Cond.instanceMethod yX10_wears]
theorem gU52_ : GoodIn lw_tbl wU52 := goodIn_r _ [1911, 1912, 1913, 1914, 1915, 1917, 110, 1918, 1919, 1920, 1921, 1126, 1127, 1128, 1129, 1131, 1130, 1922, 1923, 1924, 1925, 1926, 1132, 1133] (by decide +kernel) (by decide +kernel)
def wU53 : List Cond := [Cond.selects RX10 yX10_wears yX10_wears, Cond.code yX10_wears cX10_wears 6 (some .long), Cond.constantLong RX10 292 (100), Cond.methodLink RL 175 yX11_wears, Cond.instanceMethod yX11_wears, Cond.selects RX11 yX11_wears yX11_wears, Cond.code yX11_wears cX11_wears 7 (some .long), Cond.constantLong RX11 420 (100), Cond.methodLink RL 176 yX10_apart, Cond.instanceMethod yX10_apart, Cond.selects RX10 yX10_apart yX10_apart, Cond.code yX10_apart cX10_apart 4 (some .int), Cond.methodLink RX10 294 yX10_rideTrouble, Cond.instanceMethod yX10_rideTrouble, Cond.selects RX10 yX10_rideTrouble yX10_rideTrouble, Cond.code yX10_rideTrouble cX10_rideTrouble 4 (some .int), Cond.fieldLink RX10 303 "ReelChange$House" "boys" "LReelChange$Table;", Cond.methodLink RX10 297 yX10_boysMeant, Cond.instanceMethod yX10_boysMeant, Cond.selects RX10 yX10_boysMeant yX10_boysMeant, Cond.code yX10_boysMeant cX10_boysMeant 2 (some .int), Cond.methodLink RX10 300 yX10_apartBy, Cond.instanceMethod yX10_apartBy, Cond.selects RX10 yX10_apartBy yX10_apartBy]
theorem gU53_ : GoodIn lw_tbl wU53 := goodIn_r _ [1134, 1135, 1136, 1927, 1928, 1929, 1930, 1931, 1137, 1138, 1139, 1140, 1141, 1143, 44, 1144, 259, 1145, 1147, 45, 1148, 1149, 1151, 46] (by decide +kernel) (by decide +kernel)
def wU54 : List Cond := [Cond.code yX10_apartBy cX10_apartBy 2 (some .int), Cond.fieldLink RX10 387 "ReelChange$Riders" "apartNeeded" "I", Cond.methodLink RX10 306 yX6_carry, Cond.instanceMethod yX6_carry, Cond.selects RX6 yX6_carry yX6_carry, Cond.code yX6_carry cX6_carry 10 none, Cond.fieldLink RX6 31 "ReelChange$Night" "rows" "LReelChange$Table;", Cond.fieldLink RX6 36 "ReelChange$Table" "count" "I", Cond.methodLink RX6 47 Lib.Math.max.name, Cond.methodLink RX6 27 yX8_put, Cond.methodLink RX6 39 yX6_soonestBack, Cond.instanceMethod yX6_soonestBack, Cond.selects RX6 yX6_soonestBack yX6_soonestBack, Cond.code yX6_soonestBack cX6_soonestBack 4 (some .int), Cond.methodLink RX6 43 yX8_at, Cond.methodLink RL 179 yX11_apart, Cond.instanceMethod yX11_apart, Cond.selects RX11 yX11_apart yX11_apart, Cond.code yX11_apart cX11_apart 4 (some .int), Cond.methodLink RX11 446 yX11_boyWhy, Cond.instanceMethod yX11_boyWhy, Cond.selects RX11 yX11_boyWhy yX11_boyWhy, Cond.code yX11_boyWhy cX11_boyWhy 2 (some .int), Cond.methodLink RX11 449 yX11_apartOf]
theorem gU54_ : GoodIn lw_tbl wU54 := goodIn_r _ [1152, 436, 1153, 1154, 1155, 1156, 379, 192, 1163, 1157, 1158, 1160, 47, 1161, 1162, 1972, 1973, 1974, 1975, 1976, 1978, 115, 1979, 1980] (by decide +kernel) (by decide +kernel)
def wU55 : List Cond := [Cond.instanceMethod yX11_apartOf, Cond.selects RX11 yX11_apartOf yX11_apartOf, Cond.code yX11_apartOf cX11_apartOf 5 (some .int), Cond.methodLink RX11 443 yX11_carry, Cond.instanceMethod yX11_carry, Cond.selects RX11 yX11_carry yX11_carry, Cond.code yX11_carry cX11_carry 6 none, Cond.methodLink RL 180 yX10_waits, Cond.instanceMethod yX10_waits, Cond.selects RX10 yX10_waits yX10_waits, Cond.code yX10_waits cX10_waits 5 (some .int), Cond.fieldLink RX10 310 "ReelChange$Riders" "waited" "I", Cond.methodLink RL 184 yX11_waits, Cond.instanceMethod yX11_waits, Cond.selects RX11 yX11_waits yX11_waits, Cond.code yX11_waits cX11_waits 9 (some .int), Cond.methodLink RL 185 yX10_boys, Cond.instanceMethod yX10_boys, Cond.selects RX10 yX10_boys yX10_boys, Cond.code yX10_boys cX10_boys 5 (some .int), Cond.methodLink RL 188 yX11_boys, Cond.instanceMethod yX11_boys, Cond.selects RX11 yX11_boys yX11_boys, Cond.code yX11_boys cX11_boys 5 (some .int)]
theorem gU55_ : GoodIn lw_tbl wU55 := goodIn_r _ [1982, 116, 1983, 1984, 1986, 117, 1987, 1164, 1165, 1166, 1167, 438, 1992, 1993, 1994, 1995, 1168, 1169, 1170, 1171, 1988, 1989, 1990, 1991] (by decide +kernel) (by decide +kernel)
def wU56 : List Cond := [Cond.methodLink RL 189 yX10_well, Cond.instanceMethod yX10_well, Cond.selects RX10 yX10_well yX10_well, Cond.code yX10_well cX10_well 2 (some .long), Cond.methodLink RL 193 yX11_well, Cond.instanceMethod yX11_well, Cond.selects RX11 yX11_well yX11_well, Cond.code yX11_well cX11_well 2 (some .long), Cond.methodLink RL 194 yX10_wrong, Cond.instanceMethod yX10_wrong, Cond.selects RX10 yX10_wrong yX10_wrong, Cond.code yX10_wrong cX10_wrong 1 (some .int), Cond.methodLink RX10 313 yX1_wrongPlaces, Cond.instanceMethod yX1_wrongPlaces, Cond.selects RX1 yX1_wrongPlaces yX1_wrongPlaces, Cond.code yX1_wrongPlaces cX1_wrongPlaces 5 (some .int), Cond.fieldLink RX1 27 "ReelChange$State" "places" "LReelChange$Table;", Cond.fieldLink RX1 32 "ReelChange$Table" "count" "I", Cond.methodLink RX1 36 yX7_reelAt, Cond.methodLink RL 197 yX11_wrong, Cond.instanceMethod yX11_wrong, Cond.selects RX11 yX11_wrong yX11_wrong, Cond.code yX11_wrong cX11_wrong 4 (some .int), Cond.methodLink RL 198 yX10_exchanges]
theorem gU56_ : GoodIn lw_tbl wU56 := goodIn_r _ [1172, 1173, 1174, 1175, 1996, 1997, 1998, 1999, 1176, 1177, 1178, 1179, 1180, 1181, 1182, 1183, 220, 190, 1184, 2000, 2001, 2002, 2003, 1185] (by decide +kernel) (by decide +kernel)
def wU57 : List Cond := [Cond.instanceMethod yX10_exchanges, Cond.selects RX10 yX10_exchanges yX10_exchanges, Cond.code yX10_exchanges cX10_exchanges 1 (some .int), Cond.methodLink RX10 317 yX1_fewest, Cond.instanceMethod yX1_fewest, Cond.selects RX1 yX1_fewest yX1_fewest, Cond.code yX1_fewest cX1_fewest 8 (some .int), Cond.methodLink RX1 40 Lib.Math.min.name, Cond.methodLink RX1 56 Lib.Math.max.name, Cond.methodLink RX1 46 yX1_sort, Cond.instanceMethod yX1_sort, Cond.selects RX1 yX1_sort yX1_sort, Cond.code yX1_sort cX1_sort 4 none, Cond.fieldLink RX1 66 "ReelChange$State" "reels" "LReelChange$Table;", Cond.methodLink RX1 63 yX8_clear, Cond.methodLink RX1 69 yX8_howMany, Cond.methodLink RX1 72 yX8_add, Cond.methodLink RX1 50 yX1_weigh, Cond.instanceMethod yX1_weigh, Cond.selects RX1 yX1_weigh yX1_weigh, Cond.code yX1_weigh cX1_weigh 3 none, Cond.methodLink RX1 75 yX1_unit, Cond.static yX1_unit, Cond.code yX1_unit cX1_unit 1 (some .long)]
theorem gU57_ : GoodIn lw_tbl wU57 := goodIn_r _ [1186, 1187, 1188, 1189, 1190, 1191, 1192, 1193, 1209, 1194, 1196, 48, 1197, 207, 1198, 1199, 1200, 1201, 1203, 49, 1204, 1205, 1206, 1207] (by decide +kernel) (by decide +kernel)
def wU58 : List Cond := [Cond.methodLink RX1 53 yX8_at, Cond.methodLink RX1 59 yX8_put, Cond.methodLink RL 201 yX11_exchanges, Cond.instanceMethod yX11_exchanges, Cond.selects RX11 yX11_exchanges yX11_exchanges, Cond.code yX11_exchanges cX11_exchanges 5 (some .int), Cond.methodLink RX11 452 yX11_laySorted, Cond.instanceMethod yX11_laySorted, Cond.selects RX11 yX11_laySorted yX11_laySorted, Cond.code yX11_laySorted cX11_laySorted 3 none, Cond.methodLink RX11 455 yX11_isEven, Cond.instanceMethod yX11_isEven, Cond.selects RX11 yX11_isEven yX11_isEven, Cond.code yX11_isEven cX11_isEven 6 (some .boolean), Cond.methodLink RL 202 yX10_dark, Cond.instanceMethod yX10_dark, Cond.selects RX10 yX10_dark yX10_dark, Cond.code yX10_dark cX10_dark 3 (some .int), Cond.constant RX10 320 (65536), Cond.fieldLink RX10 328 "ReelChange$Night" "snapped" "I", Cond.methodLink RX10 325 yX5_drawBy, Cond.instanceMethod yX5_drawBy, Cond.selects RX5 yX5_drawBy yX5_drawBy, Cond.code yX5_drawBy cX5_drawBy 2 none]
theorem gU58_ : GoodIn lw_tbl wU58 := goodIn_r _ [1208, 1210, 2004, 2005, 2006, 2007, 2008, 2010, 118, 2011, 2012, 2014, 119, 2015, 1211, 1212, 1213, 1214, 1215, 382, 1216, 1217, 1218, 1219] (by decide +kernel) (by decide +kernel)
def wU59 : List Cond := [Cond.methodLink RL 205 yX11_dark, Cond.instanceMethod yX11_dark, Cond.selects RX11 yX11_dark yX11_dark, Cond.code yX11_dark cX11_dark 3 (some .int), Cond.constant RX11 468 (65536), Cond.fieldLink RX11 458 "ReelChangeModel" "seed1" "I", Cond.fieldLink RX11 462 "ReelChangeModel" "darkNow" "I", Cond.methodLink RX11 469 yX11_drawNight, Cond.instanceMethod yX11_drawNight, Cond.selects RX11 yX11_drawNight yX11_drawNight, Cond.code yX11_drawNight cX11_drawNight 5 none, Cond.methodLink RX11 465 yX11_drawn, Cond.instanceMethod yX11_drawn, Cond.selects RX11 yX11_drawn yX11_drawn, Cond.code yX11_drawn cX11_drawn 1 (some .int), Cond.constant RX11 461 (65537), Cond.methodLink RL 206 yX10_bestMan, Cond.instanceMethod yX10_bestMan, Cond.selects RX10 yX10_bestMan yX10_bestMan, Cond.code yX10_bestMan cX10_bestMan 7 (some .int), Cond.methodLink RX10 334 yX10_wasteByDraws, Cond.instanceMethod yX10_wasteByDraws, Cond.selects RX10 yX10_wasteByDraws yX10_wasteByDraws, Cond.code yX10_wasteByDraws cX10_wasteByDraws 6 (some .int)]
theorem gU59_ : GoodIn lw_tbl wU59 := goodIn_r _ [2016, 2017, 2018, 2019, 2020, 1420, 1421, 2021, 2023, 120, 2024, 2025, 2027, 121, 2028, 2029, 1220, 1221, 1222, 1223, 1224, 1226, 50, 1227] (by decide +kernel) (by decide +kernel)
def wU60 : List Cond := [Cond.methodLink RL 209 yX11_bestMan, Cond.instanceMethod yX11_bestMan, Cond.selects RX11 yX11_bestMan yX11_bestMan, Cond.code yX11_bestMan cX11_bestMan 8 (some .int), Cond.constant RX11 472 (100000000), Cond.methodLink RL 210 yX10_threads, Cond.instanceMethod yX10_threads, Cond.selects RX10 yX10_threads yX10_threads, Cond.code yX10_threads cX10_threads 3 (some .boolean), Cond.methodLink RX10 337 yX10_refuseAct, Cond.instanceMethod yX10_refuseAct, Cond.selects RX10 yX10_refuseAct yX10_refuseAct, Cond.code yX10_refuseAct cX10_refuseAct 2 (some .boolean), Cond.methodLink RX10 340 yX4_keep, Cond.instanceMethod yX4_keep, Cond.selects RX4 yX4_keep yX4_keep, Cond.code yX4_keep cX4_keep 3 none, Cond.methodLink RX4 39 Lib.Math.min.name, Cond.methodLink RX4 31 yX4_slot, Cond.static yX4_slot, Cond.code yX4_slot cX4_slot 2 (some (.object "ReelChange$State")), Cond.methodLink RX4 35 yX7_copyFrom, Cond.methodLink RX10 343 yX8_put, Cond.methodLink RX10 346 yX10_actDone]
theorem gU60_ : GoodIn lw_tbl wU60 := goodIn_r _ [2030, 2031, 2032, 2033, 2034, 1228, 1229, 1230, 1231, 1232, 1234, 51, 1235, 1236, 1237, 1238, 1239, 1244, 1240, 1241, 1242, 1243, 1245, 1246] (by decide +kernel) (by decide +kernel)
def wU61 : List Cond := [Cond.instanceMethod yX10_actDone, Cond.selects RX10 yX10_actDone yX10_actDone, Cond.code yX10_actDone cX10_actDone 1 (some .boolean), Cond.methodLink RL 214 yX11_threads, Cond.instanceMethod yX11_threads, Cond.selects RX11 yX11_threads yX11_threads, Cond.code yX11_threads cX11_threads 3 (some .boolean), Cond.methodLink RX11 473 yX11_isNot, Cond.instanceMethod yX11_isNot, Cond.selects RX11 yX11_isNot yX11_isNot, Cond.code yX11_isNot cX11_isNot 2 (some .boolean), Cond.methodLink RX11 476 yX11_note, Cond.instanceMethod yX11_note, Cond.selects RX11 yX11_note yX11_note, Cond.code yX11_note cX11_note 2 none, Cond.methodLink RL 215 yX10_trim, Cond.instanceMethod yX10_trim, Cond.selects RX10 yX10_trim yX10_trim, Cond.code yX10_trim cX10_trim 3 (some .boolean), Cond.methodLink RL 219 yX11_trim, Cond.instanceMethod yX11_trim, Cond.selects RX11 yX11_trim yX11_trim, Cond.code yX11_trim cX11_trim 3 (some .boolean), Cond.methodLink RL 220 yX10_mend]
theorem gU61_ : GoodIn lw_tbl wU61 := goodIn_r _ [1248, 52, 1249, 2035, 2036, 2037, 2038, 2039, 2041, 122, 2042, 2043, 2045, 123, 2046, 1250, 1251, 1252, 1253, 2047, 2048, 2049, 2050, 1254] (by decide +kernel) (by decide +kernel)
def wU62 : List Cond := [Cond.instanceMethod yX10_mend, Cond.selects RX10 yX10_mend yX10_mend, Cond.code yX10_mend cX10_mend 3 (some .int), Cond.methodLink RX10 349 yX7_cutOut, Cond.instanceMethod yX7_cutOut, Cond.selects RX7 yX7_cutOut yX7_cutOut, Cond.code yX7_cutOut cX7_cutOut 5 none, Cond.methodLink RX7 71 yX8_put, Cond.methodLink RX7 75 yX7_sooner, Cond.static yX7_sooner, Cond.code yX7_sooner cX7_sooner 4 (some .int), Cond.methodLink RX7 83 Lib.Math.max.name, Cond.methodLink RX7 86 Lib.Math.min.name, Cond.methodLink RX7 79 yX7_pull, Cond.static yX7_pull, Cond.code yX7_pull cX7_pull 5 none, Cond.methodLink RL 223 yX11_mend, Cond.instanceMethod yX11_mend, Cond.selects RX11 yX11_mend yX11_mend, Cond.code yX11_mend cX11_mend 6 (some .int), Cond.methodLink RX11 479 yX11_shifted, Cond.static yX11_shifted, Cond.code yX11_shifted cX11_shifted 4 (some .int), Cond.methodLink RL 224 yX10_undo]
theorem gU62_ : GoodIn lw_tbl wU62 := goodIn_r _ [1255, 1256, 1257, 1258, 1259, 1260, 1261, 1262, 1263, 1264, 1265, 1266, 1267, 1268, 1269, 1270, 2051, 2052, 2053, 2054, 2055, 2056, 2057, 1271] (by decide +kernel) (by decide +kernel)
def wU63 : List Cond := [Cond.instanceMethod yX10_undo, Cond.selects RX10 yX10_undo yX10_undo, Cond.code yX10_undo cX10_undo 1 (some .boolean), Cond.methodLink RX10 352 yX4_takeBack, Cond.instanceMethod yX4_takeBack, Cond.selects RX4 yX4_takeBack yX4_takeBack, Cond.code yX4_takeBack cX4_takeBack 2 (some .boolean), Cond.methodLink RL 228 yX11_undo, Cond.instanceMethod yX11_undo, Cond.selects RX11 yX11_undo yX11_undo, Cond.code yX11_undo cX11_undo 1 (some .boolean), Cond.methodLink RL 229 yX10_image, Cond.instanceMethod yX10_image, Cond.selects RX10 yX10_image yX10_image, Cond.code yX10_image cX10_image 2 (some .int), Cond.methodLink RX10 356 yX4_takeImage, Cond.instanceMethod yX4_takeImage, Cond.selects RX4 yX4_takeImage yX4_takeImage, Cond.code yX4_takeImage cX4_takeImage 3 (some .int), Cond.methodLink RL 232 yX11_image, Cond.instanceMethod yX11_image, Cond.selects RX11 yX11_image yX11_image, Cond.code yX11_image cX11_image 1 (some .int), Cond.methodLink RL 233 yX10_back]
theorem gU63_ : GoodIn lw_tbl wU63 := goodIn_r _ [1272, 1273, 1274, 1275, 1276, 1277, 1278, 2058, 2059, 2060, 2061, 1279, 1280, 1281, 1282, 1283, 1284, 1285, 1286, 2062, 2063, 2064, 2065, 1287] (by decide +kernel) (by decide +kernel)
def wU64 : List Cond := [Cond.instanceMethod yX10_back, Cond.selects RX10 yX10_back yX10_back, Cond.code yX10_back cX10_back 2 (some .boolean), Cond.methodLink RX10 359 yX4_goBack, Cond.instanceMethod yX4_goBack, Cond.selects RX4 yX4_goBack yX4_goBack, Cond.code yX4_goBack cX4_goBack 3 (some .boolean), Cond.methodLink RL 237 yX11_back, Cond.instanceMethod yX11_back, Cond.selects RX11 yX11_back yX11_back, Cond.code yX11_back cX11_back 2 (some .boolean), Cond.methodLink RL 238 yL_led, Cond.static yL_led, Cond.initialized RL, Cond.codeWith yL_led cL_led 4 (some .int) [(0, 9, 12, 13)], Cond.classLink RL 13 "java/util/NoSuchElementException", Cond.methodLink RL 7 yX10_led, Cond.instanceMethod yX10_led, Cond.selects RX10 yX10_led yX10_led, Cond.code yX10_led cX10_led 4 (some .int), Cond.classLink RX10 363 "java/util/NoSuchElementException", Cond.initialized "java/util/NoSuchElementException", Cond.methodLink RL 243 yX11_led, Cond.instanceMethod yX11_led]
theorem gU64_ : GoodIn lw_tbl wU64 := goodIn_r _ [1288, 1289, 1290, 1291, 1292, 1293, 1294, 2066, 2067, 2068, 2069, 1304, 1305, 124, 1306, 1307, 1308, 1309, 1310, 1311, 1312, 147, 2070, 2071] (by decide +kernel) (by decide +kernel)
def wU65 : List Cond := [Cond.selects RX11 yX11_led yX11_led, Cond.code yX11_led cX11_led 4 (some .int), Cond.methodLink RL 244 yX10_size, Cond.instanceMethod yX10_size, Cond.selects RX10 yX10_size yX10_size, Cond.code yX10_size cX10_size 2 (some .int), Cond.fieldLink RX10 366 "ReelChange$State" "mended" "I", Cond.fieldLink RX10 372 "ReelChange$Kept" "acts" "I", Cond.fieldLink RX10 375 "ReelChange$Kept" "imaged" "I", Cond.methodLink RX10 369 yJ6_bitCount_0f7a4, Cond.methodLink RL 247 yX11_size, Cond.instanceMethod yX11_size, Cond.selects RX11 yX11_size yX11_size, Cond.code yX11_size cX11_size 2 (some .int), Cond.methodLink RL 248 yX10_trouble, Cond.instanceMethod yX10_trouble, Cond.selects RX10 yX10_trouble yX10_trouble, Cond.code yX10_trouble cX10_trouble 1 (some .int), Cond.methodLink RL 251 yX11_trouble, Cond.instanceMethod yX11_trouble, Cond.selects RX11 yX11_trouble yX11_trouble, Cond.code yX11_trouble cX11_trouble 1 (some .int)]
theorem gU65_ : GoodIn lw_tbl wU65 := goodIn_r _ [2072, 2073, 1295, 1296, 1297, 1298, 224, 354, 357, 1299, 2074, 2075, 2076, 2077, 1300, 1301, 1302, 1303, 2078, 2079, 2080, 2081] (by decide +kernel) (by decide +kernel)
theorem gX0_ : GoodIn lw_tbl wsX00 := goodIn_r _ [421, 423] (by decide +kernel) (by decide +kernel)
theorem gX1_ : GoodIn lw_tbl wsX10 := goodIn_r _ [457, 459, 461] (by decide +kernel) (by decide +kernel)
theorem gX2_ : GoodIn lw_tbl wsX20 := goodIn_r _ [474, 476] (by decide +kernel) (by decide +kernel)
theorem gX3_ : GoodIn lw_tbl wsX30 := goodIn_r _ [267, 269, 271, 273, 275, 277, 279, 281] (by decide +kernel) (by decide +kernel)
theorem gX4_ : GoodIn lw_tbl wsX40 := goodIn_r _ [358, 360, 362, 364, 366] (by decide +kernel) (by decide +kernel)
theorem gX5_ : GoodIn lw_tbl wsX50 := goodIn_r _ [390, 392, 394, 396, 398, 400, 402, 404, 406] (by decide +kernel) (by decide +kernel)
theorem gX6_ : GoodIn lw_tbl wsX60 := goodIn_r _ [439, 441, 443] (by decide +kernel) (by decide +kernel)
theorem gX7_ : GoodIn lw_tbl wsX70 := goodIn_r _ [227, 229, 231, 233, 235, 237] (by decide +kernel) (by decide +kernel)
theorem gX8_ : GoodIn lw_tbl wsX80 := goodIn_r _ [196, 198, 200, 202] (by decide +kernel) (by decide +kernel)
theorem gX9_ : GoodIn lw_tbl wsX90 := goodIn_r _ [305, 307, 309, 311, 313, 315, 317, 319, 321, 323, 325, 327, 329, 331, 333] (by decide +kernel) (by decide +kernel)
theorem gX10_ : GoodIn lw_tbl wsX100 := goodIn_r _ [489, 491, 493, 495, 497, 499, 501, 503, 505, 507] (by decide +kernel) (by decide +kernel)
theorem gX11_ : GoodIn lw_tbl wsX110 := goodIn_r _ [1422, 1424, 1426, 1428, 1430, 1432, 1434, 1436, 1438, 1440, 1442, 1444, 1446, 1448, 1450, 1452, 1454, 1456, 1458, 1460, 1462, 1464, 1466, 1468, 1470, 1472, 1474, 1476, 1478, 1480, 1482, 1484, 1486, 1488, 1490, 1492, 1494, 1496, 1498, 1500, 1502, 1504, 1506] (by decide +kernel) (by decide +kernel)
def wsL_law0 : List Cond := wU0 ++ (wU1 ++ (wU2 ++ (wU3 ++ (wU4 ++ (wU5 ++ (wU6 ++ (wU7 ++ (wU8 ++ (wU9 ++ (wU10 ++ (wU11 ++ (wU12 ++ (wU13 ++ (wU14 ++ (wU15 ++ (wU16 ++ (wU17 ++ (wU18 ++ (wU19 ++ (wU20 ++ (wU21 ++ (wU22 ++ (wU23 ++ (wU24 ++ (wU25 ++ (wU26 ++ (wU27 ++ (wU28 ++ (wU29 ++ (wU30 ++ (wU31 ++ (wU32 ++ (wU33 ++ (wU34 ++ (wU35 ++ (wU36 ++ (wU37 ++ (wU38 ++ (wU39 ++ (wU40 ++ (wU41 ++ (wU42 ++ (wU43 ++ (wU44 ++ (wU45 ++ (wU46 ++ (wU47 ++ (wU48 ++ (wU49 ++ (wU50 ++ (wU51 ++ (wU52 ++ (wU53 ++ (wU54 ++ (wU55 ++ (wU56 ++ (wU57 ++ (wU58 ++ (wU59 ++ (wU60 ++ (wU61 ++ (wU62 ++ (wU63 ++ (wU64 ++ (wU65 ++ (wsX00 ++ (wsX10 ++ (wsX20 ++ (wsX30 ++ (wsX40 ++ (wsX50 ++ (wsX60 ++ (wsX70 ++ (wsX80 ++ (wsX90 ++ (wsX100 ++ (wsX110)))))))))))))))))))))))))))))))))))))))))))))))))))))))))))))))))))))))))))))
theorem gdL : GoodIn lw_tbl wsL_law0 := goodIn_app gU0_ (goodIn_app gU1_ (goodIn_app gU2_ (goodIn_app gU3_ (goodIn_app gU4_ (goodIn_app gU5_ (goodIn_app gU6_ (goodIn_app gU7_ (goodIn_app gU8_ (goodIn_app gU9_ (goodIn_app gU10_ (goodIn_app gU11_ (goodIn_app gU12_ (goodIn_app gU13_ (goodIn_app gU14_ (goodIn_app gU15_ (goodIn_app gU16_ (goodIn_app gU17_ (goodIn_app gU18_ (goodIn_app gU19_ (goodIn_app gU20_ (goodIn_app gU21_ (goodIn_app gU22_ (goodIn_app gU23_ (goodIn_app gU24_ (goodIn_app gU25_ (goodIn_app gU26_ (goodIn_app gU27_ (goodIn_app gU28_ (goodIn_app gU29_ (goodIn_app gU30_ (goodIn_app gU31_ (goodIn_app gU32_ (goodIn_app gU33_ (goodIn_app gU34_ (goodIn_app gU35_ (goodIn_app gU36_ (goodIn_app gU37_ (goodIn_app gU38_ (goodIn_app gU39_ (goodIn_app gU40_ (goodIn_app gU41_ (goodIn_app gU42_ (goodIn_app gU43_ (goodIn_app gU44_ (goodIn_app gU45_ (goodIn_app gU46_ (goodIn_app gU47_ (goodIn_app gU48_ (goodIn_app gU49_ (goodIn_app gU50_ (goodIn_app gU51_ (goodIn_app gU52_ (goodIn_app gU53_ (goodIn_app gU54_ (goodIn_app gU55_ (goodIn_app gU56_ (goodIn_app gU57_ (goodIn_app gU58_ (goodIn_app gU59_ (goodIn_app gU60_ (goodIn_app gU61_ (goodIn_app gU62_ (goodIn_app gU63_ (goodIn_app gU64_ (goodIn_app gU65_ (goodIn_app gX0_ (goodIn_app gX1_ (goodIn_app gX2_ (goodIn_app gX3_ (goodIn_app gX4_ (goodIn_app gX5_ (goodIn_app gX6_ (goodIn_app gX7_ (goodIn_app gX8_ (goodIn_app gX9_ (goodIn_app gX10_ (gX11_)))))))))))))))))))))))))))))))))))))))))))))))))))))))))))))))))))))))))))))
theorem wsL_in : ∀ w ∈ wsL_law0, w ∈ lw_tbl := fun w h => (gdL w h).1
theorem goodL : ∀ w ∈ wsL_law0, (w.onTables && w.keeps) = true ∨ ∃ ty, w = .arrayClass ty := fun w h => (gdL w h).2
theorem mL0 : ∀ w ∈ wU0, w ∈ wsL_law0 := fun _ h => List.mem_append_left _ h
theorem mL1 : ∀ w ∈ wU1, w ∈ wsL_law0 := fun _ h => List.mem_append_right _ (List.mem_append_left _ h)
theorem mL2 : ∀ w ∈ wU2, w ∈ wsL_law0 := fun _ h => List.mem_append_right _ (List.mem_append_right _ (List.mem_append_left _ h))
theorem mL3 : ∀ w ∈ wU3, w ∈ wsL_law0 := fun _ h => List.mem_append_right _ (List.mem_append_right _ (List.mem_append_right _ (List.mem_append_left _ h)))
theorem mL4 : ∀ w ∈ wU4, w ∈ wsL_law0 := fun _ h => List.mem_append_right _ (List.mem_append_right _ (List.mem_append_right _ (List.mem_append_right _ (List.mem_append_left _ h))))
theorem mL5 : ∀ w ∈ wU5, w ∈ wsL_law0 := fun _ h => List.mem_append_right _ (List.mem_append_right _ (List.mem_append_right _ (List.mem_append_right _ (List.mem_append_right _ (List.mem_append_left _ h)))))
theorem mL6 : ∀ w ∈ wU6, w ∈ wsL_law0 := fun _ h => List.mem_append_right _ (List.mem_append_right _ (List.mem_append_right _ (List.mem_append_right _ (List.mem_append_right _ (List.mem_append_right _ (List.mem_append_left _ h))))))
theorem mL7 : ∀ w ∈ wU7, w ∈ wsL_law0 := fun _ h => List.mem_append_right _ (List.mem_append_right _ (List.mem_append_right _ (List.mem_append_right _ (List.mem_append_right _ (List.mem_append_right _ (List.mem_append_right _ (List.mem_append_left _ h)))))))
theorem mL8 : ∀ w ∈ wU8, w ∈ wsL_law0 := fun _ h => List.mem_append_right _ (List.mem_append_right _ (List.mem_append_right _ (List.mem_append_right _ (List.mem_append_right _ (List.mem_append_right _ (List.mem_append_right _ (List.mem_append_right _ (List.mem_append_left _ h))))))))
theorem mL9 : ∀ w ∈ wU9, w ∈ wsL_law0 := fun _ h => List.mem_append_right _ (List.mem_append_right _ (List.mem_append_right _ (List.mem_append_right _ (List.mem_append_right _ (List.mem_append_right _ (List.mem_append_right _ (List.mem_append_right _ (List.mem_append_right _ (List.mem_append_left _ h)))))))))
theorem mL10 : ∀ w ∈ wU10, w ∈ wsL_law0 := fun _ h => List.mem_append_right _ (List.mem_append_right _ (List.mem_append_right _ (List.mem_append_right _ (List.mem_append_right _ (List.mem_append_right _ (List.mem_append_right _ (List.mem_append_right _ (List.mem_append_right _ (List.mem_append_right _ (List.mem_append_left _ h))))))))))
theorem mL11 : ∀ w ∈ wU11, w ∈ wsL_law0 := fun _ h => List.mem_append_right _ (List.mem_append_right _ (List.mem_append_right _ (List.mem_append_right _ (List.mem_append_right _ (List.mem_append_right _ (List.mem_append_right _ (List.mem_append_right _ (List.mem_append_right _ (List.mem_append_right _ (List.mem_append_right _ (List.mem_append_left _ h)))))))))))
theorem mL12 : ∀ w ∈ wU12, w ∈ wsL_law0 := fun _ h => List.mem_append_right _ (List.mem_append_right _ (List.mem_append_right _ (List.mem_append_right _ (List.mem_append_right _ (List.mem_append_right _ (List.mem_append_right _ (List.mem_append_right _ (List.mem_append_right _ (List.mem_append_right _ (List.mem_append_right _ (List.mem_append_right _ (List.mem_append_left _ h))))))))))))
theorem mL13 : ∀ w ∈ wU13, w ∈ wsL_law0 := fun _ h => List.mem_append_right _ (List.mem_append_right _ (List.mem_append_right _ (List.mem_append_right _ (List.mem_append_right _ (List.mem_append_right _ (List.mem_append_right _ (List.mem_append_right _ (List.mem_append_right _ (List.mem_append_right _ (List.mem_append_right _ (List.mem_append_right _ (List.mem_append_right _ (List.mem_append_left _ h)))))))))))))
theorem mL14 : ∀ w ∈ wU14, w ∈ wsL_law0 := fun _ h => List.mem_append_right _ (List.mem_append_right _ (List.mem_append_right _ (List.mem_append_right _ (List.mem_append_right _ (List.mem_append_right _ (List.mem_append_right _ (List.mem_append_right _ (List.mem_append_right _ (List.mem_append_right _ (List.mem_append_right _ (List.mem_append_right _ (List.mem_append_right _ (List.mem_append_right _ (List.mem_append_left _ h))))))))))))))
theorem mL15 : ∀ w ∈ wU15, w ∈ wsL_law0 := fun _ h => List.mem_append_right _ (List.mem_append_right _ (List.mem_append_right _ (List.mem_append_right _ (List.mem_append_right _ (List.mem_append_right _ (List.mem_append_right _ (List.mem_append_right _ (List.mem_append_right _ (List.mem_append_right _ (List.mem_append_right _ (List.mem_append_right _ (List.mem_append_right _ (List.mem_append_right _ (List.mem_append_right _ (List.mem_append_left _ h)))))))))))))))
theorem mL16 : ∀ w ∈ wU16, w ∈ wsL_law0 := fun _ h => List.mem_append_right _ (List.mem_append_right _ (List.mem_append_right _ (List.mem_append_right _ (List.mem_append_right _ (List.mem_append_right _ (List.mem_append_right _ (List.mem_append_right _ (List.mem_append_right _ (List.mem_append_right _ (List.mem_append_right _ (List.mem_append_right _ (List.mem_append_right _ (List.mem_append_right _ (List.mem_append_right _ (List.mem_append_right _ (List.mem_append_left _ h))))))))))))))))
theorem mL17 : ∀ w ∈ wU17, w ∈ wsL_law0 := fun _ h => List.mem_append_right _ (List.mem_append_right _ (List.mem_append_right _ (List.mem_append_right _ (List.mem_append_right _ (List.mem_append_right _ (List.mem_append_right _ (List.mem_append_right _ (List.mem_append_right _ (List.mem_append_right _ (List.mem_append_right _ (List.mem_append_right _ (List.mem_append_right _ (List.mem_append_right _ (List.mem_append_right _ (List.mem_append_right _ (List.mem_append_right _ (List.mem_append_left _ h)))))))))))))))))
theorem mL18 : ∀ w ∈ wU18, w ∈ wsL_law0 := fun _ h => List.mem_append_right _ (List.mem_append_right _ (List.mem_append_right _ (List.mem_append_right _ (List.mem_append_right _ (List.mem_append_right _ (List.mem_append_right _ (List.mem_append_right _ (List.mem_append_right _ (List.mem_append_right _ (List.mem_append_right _ (List.mem_append_right _ (List.mem_append_right _ (List.mem_append_right _ (List.mem_append_right _ (List.mem_append_right _ (List.mem_append_right _ (List.mem_append_right _ (List.mem_append_left _ h))))))))))))))))))
theorem mL19 : ∀ w ∈ wU19, w ∈ wsL_law0 := fun _ h => List.mem_append_right _ (List.mem_append_right _ (List.mem_append_right _ (List.mem_append_right _ (List.mem_append_right _ (List.mem_append_right _ (List.mem_append_right _ (List.mem_append_right _ (List.mem_append_right _ (List.mem_append_right _ (List.mem_append_right _ (List.mem_append_right _ (List.mem_append_right _ (List.mem_append_right _ (List.mem_append_right _ (List.mem_append_right _ (List.mem_append_right _ (List.mem_append_right _ (List.mem_append_right _ (List.mem_append_left _ h)))))))))))))))))))
theorem mL20 : ∀ w ∈ wU20, w ∈ wsL_law0 := fun _ h => List.mem_append_right _ (List.mem_append_right _ (List.mem_append_right _ (List.mem_append_right _ (List.mem_append_right _ (List.mem_append_right _ (List.mem_append_right _ (List.mem_append_right _ (List.mem_append_right _ (List.mem_append_right _ (List.mem_append_right _ (List.mem_append_right _ (List.mem_append_right _ (List.mem_append_right _ (List.mem_append_right _ (List.mem_append_right _ (List.mem_append_right _ (List.mem_append_right _ (List.mem_append_right _ (List.mem_append_right _ (List.mem_append_left _ h))))))))))))))))))))
theorem mL21 : ∀ w ∈ wU21, w ∈ wsL_law0 := fun _ h => List.mem_append_right _ (List.mem_append_right _ (List.mem_append_right _ (List.mem_append_right _ (List.mem_append_right _ (List.mem_append_right _ (List.mem_append_right _ (List.mem_append_right _ (List.mem_append_right _ (List.mem_append_right _ (List.mem_append_right _ (List.mem_append_right _ (List.mem_append_right _ (List.mem_append_right _ (List.mem_append_right _ (List.mem_append_right _ (List.mem_append_right _ (List.mem_append_right _ (List.mem_append_right _ (List.mem_append_right _ (List.mem_append_right _ (List.mem_append_left _ h)))))))))))))))))))))
theorem mL22 : ∀ w ∈ wU22, w ∈ wsL_law0 := fun _ h => List.mem_append_right _ (List.mem_append_right _ (List.mem_append_right _ (List.mem_append_right _ (List.mem_append_right _ (List.mem_append_right _ (List.mem_append_right _ (List.mem_append_right _ (List.mem_append_right _ (List.mem_append_right _ (List.mem_append_right _ (List.mem_append_right _ (List.mem_append_right _ (List.mem_append_right _ (List.mem_append_right _ (List.mem_append_right _ (List.mem_append_right _ (List.mem_append_right _ (List.mem_append_right _ (List.mem_append_right _ (List.mem_append_right _ (List.mem_append_right _ (List.mem_append_left _ h))))))))))))))))))))))
theorem mL23 : ∀ w ∈ wU23, w ∈ wsL_law0 := fun _ h => List.mem_append_right _ (List.mem_append_right _ (List.mem_append_right _ (List.mem_append_right _ (List.mem_append_right _ (List.mem_append_right _ (List.mem_append_right _ (List.mem_append_right _ (List.mem_append_right _ (List.mem_append_right _ (List.mem_append_right _ (List.mem_append_right _ (List.mem_append_right _ (List.mem_append_right _ (List.mem_append_right _ (List.mem_append_right _ (List.mem_append_right _ (List.mem_append_right _ (List.mem_append_right _ (List.mem_append_right _ (List.mem_append_right _ (List.mem_append_right _ (List.mem_append_right _ (List.mem_append_left _ h)))))))))))))))))))))))
theorem mL24 : ∀ w ∈ wU24, w ∈ wsL_law0 := fun _ h => List.mem_append_right _ (List.mem_append_right _ (List.mem_append_right _ (List.mem_append_right _ (List.mem_append_right _ (List.mem_append_right _ (List.mem_append_right _ (List.mem_append_right _ (List.mem_append_right _ (List.mem_append_right _ (List.mem_append_right _ (List.mem_append_right _ (List.mem_append_right _ (List.mem_append_right _ (List.mem_append_right _ (List.mem_append_right _ (List.mem_append_right _ (List.mem_append_right _ (List.mem_append_right _ (List.mem_append_right _ (List.mem_append_right _ (List.mem_append_right _ (List.mem_append_right _ (List.mem_append_right _ (List.mem_append_left _ h))))))))))))))))))))))))
theorem mL25 : ∀ w ∈ wU25, w ∈ wsL_law0 := fun _ h => List.mem_append_right _ (List.mem_append_right _ (List.mem_append_right _ (List.mem_append_right _ (List.mem_append_right _ (List.mem_append_right _ (List.mem_append_right _ (List.mem_append_right _ (List.mem_append_right _ (List.mem_append_right _ (List.mem_append_right _ (List.mem_append_right _ (List.mem_append_right _ (List.mem_append_right _ (List.mem_append_right _ (List.mem_append_right _ (List.mem_append_right _ (List.mem_append_right _ (List.mem_append_right _ (List.mem_append_right _ (List.mem_append_right _ (List.mem_append_right _ (List.mem_append_right _ (List.mem_append_right _ (List.mem_append_right _ (List.mem_append_left _ h)))))))))))))))))))))))))
theorem mL26 : ∀ w ∈ wU26, w ∈ wsL_law0 := fun _ h => List.mem_append_right _ (List.mem_append_right _ (List.mem_append_right _ (List.mem_append_right _ (List.mem_append_right _ (List.mem_append_right _ (List.mem_append_right _ (List.mem_append_right _ (List.mem_append_right _ (List.mem_append_right _ (List.mem_append_right _ (List.mem_append_right _ (List.mem_append_right _ (List.mem_append_right _ (List.mem_append_right _ (List.mem_append_right _ (List.mem_append_right _ (List.mem_append_right _ (List.mem_append_right _ (List.mem_append_right _ (List.mem_append_right _ (List.mem_append_right _ (List.mem_append_right _ (List.mem_append_right _ (List.mem_append_right _ (List.mem_append_right _ (List.mem_append_left _ h))))))))))))))))))))))))))
theorem mL27 : ∀ w ∈ wU27, w ∈ wsL_law0 := fun _ h => List.mem_append_right _ (List.mem_append_right _ (List.mem_append_right _ (List.mem_append_right _ (List.mem_append_right _ (List.mem_append_right _ (List.mem_append_right _ (List.mem_append_right _ (List.mem_append_right _ (List.mem_append_right _ (List.mem_append_right _ (List.mem_append_right _ (List.mem_append_right _ (List.mem_append_right _ (List.mem_append_right _ (List.mem_append_right _ (List.mem_append_right _ (List.mem_append_right _ (List.mem_append_right _ (List.mem_append_right _ (List.mem_append_right _ (List.mem_append_right _ (List.mem_append_right _ (List.mem_append_right _ (List.mem_append_right _ (List.mem_append_right _ (List.mem_append_right _ (List.mem_append_left _ h)))))))))))))))))))))))))))
theorem mL28 : ∀ w ∈ wU28, w ∈ wsL_law0 := fun _ h => List.mem_append_right _ (List.mem_append_right _ (List.mem_append_right _ (List.mem_append_right _ (List.mem_append_right _ (List.mem_append_right _ (List.mem_append_right _ (List.mem_append_right _ (List.mem_append_right _ (List.mem_append_right _ (List.mem_append_right _ (List.mem_append_right _ (List.mem_append_right _ (List.mem_append_right _ (List.mem_append_right _ (List.mem_append_right _ (List.mem_append_right _ (List.mem_append_right _ (List.mem_append_right _ (List.mem_append_right _ (List.mem_append_right _ (List.mem_append_right _ (List.mem_append_right _ (List.mem_append_right _ (List.mem_append_right _ (List.mem_append_right _ (List.mem_append_right _ (List.mem_append_right _ (List.mem_append_left _ h))))))))))))))))))))))))))))
theorem mL29 : ∀ w ∈ wU29, w ∈ wsL_law0 := fun _ h => List.mem_append_right _ (List.mem_append_right _ (List.mem_append_right _ (List.mem_append_right _ (List.mem_append_right _ (List.mem_append_right _ (List.mem_append_right _ (List.mem_append_right _ (List.mem_append_right _ (List.mem_append_right _ (List.mem_append_right _ (List.mem_append_right _ (List.mem_append_right _ (List.mem_append_right _ (List.mem_append_right _ (List.mem_append_right _ (List.mem_append_right _ (List.mem_append_right _ (List.mem_append_right _ (List.mem_append_right _ (List.mem_append_right _ (List.mem_append_right _ (List.mem_append_right _ (List.mem_append_right _ (List.mem_append_right _ (List.mem_append_right _ (List.mem_append_right _ (List.mem_append_right _ (List.mem_append_right _ (List.mem_append_left _ h)))))))))))))))))))))))))))))
theorem mL30 : ∀ w ∈ wU30, w ∈ wsL_law0 := fun _ h => List.mem_append_right _ (List.mem_append_right _ (List.mem_append_right _ (List.mem_append_right _ (List.mem_append_right _ (List.mem_append_right _ (List.mem_append_right _ (List.mem_append_right _ (List.mem_append_right _ (List.mem_append_right _ (List.mem_append_right _ (List.mem_append_right _ (List.mem_append_right _ (List.mem_append_right _ (List.mem_append_right _ (List.mem_append_right _ (List.mem_append_right _ (List.mem_append_right _ (List.mem_append_right _ (List.mem_append_right _ (List.mem_append_right _ (List.mem_append_right _ (List.mem_append_right _ (List.mem_append_right _ (List.mem_append_right _ (List.mem_append_right _ (List.mem_append_right _ (List.mem_append_right _ (List.mem_append_right _ (List.mem_append_right _ (List.mem_append_left _ h))))))))))))))))))))))))))))))
theorem mL31 : ∀ w ∈ wU31, w ∈ wsL_law0 := fun _ h => List.mem_append_right _ (List.mem_append_right _ (List.mem_append_right _ (List.mem_append_right _ (List.mem_append_right _ (List.mem_append_right _ (List.mem_append_right _ (List.mem_append_right _ (List.mem_append_right _ (List.mem_append_right _ (List.mem_append_right _ (List.mem_append_right _ (List.mem_append_right _ (List.mem_append_right _ (List.mem_append_right _ (List.mem_append_right _ (List.mem_append_right _ (List.mem_append_right _ (List.mem_append_right _ (List.mem_append_right _ (List.mem_append_right _ (List.mem_append_right _ (List.mem_append_right _ (List.mem_append_right _ (List.mem_append_right _ (List.mem_append_right _ (List.mem_append_right _ (List.mem_append_right _ (List.mem_append_right _ (List.mem_append_right _ (List.mem_append_right _ (List.mem_append_left _ h)))))))))))))))))))))))))))))))
theorem mL32 : ∀ w ∈ wU32, w ∈ wsL_law0 := fun _ h => List.mem_append_right _ (List.mem_append_right _ (List.mem_append_right _ (List.mem_append_right _ (List.mem_append_right _ (List.mem_append_right _ (List.mem_append_right _ (List.mem_append_right _ (List.mem_append_right _ (List.mem_append_right _ (List.mem_append_right _ (List.mem_append_right _ (List.mem_append_right _ (List.mem_append_right _ (List.mem_append_right _ (List.mem_append_right _ (List.mem_append_right _ (List.mem_append_right _ (List.mem_append_right _ (List.mem_append_right _ (List.mem_append_right _ (List.mem_append_right _ (List.mem_append_right _ (List.mem_append_right _ (List.mem_append_right _ (List.mem_append_right _ (List.mem_append_right _ (List.mem_append_right _ (List.mem_append_right _ (List.mem_append_right _ (List.mem_append_right _ (List.mem_append_right _ (List.mem_append_left _ h))))))))))))))))))))))))))))))))
theorem mL33 : ∀ w ∈ wU33, w ∈ wsL_law0 := fun _ h => List.mem_append_right _ (List.mem_append_right _ (List.mem_append_right _ (List.mem_append_right _ (List.mem_append_right _ (List.mem_append_right _ (List.mem_append_right _ (List.mem_append_right _ (List.mem_append_right _ (List.mem_append_right _ (List.mem_append_right _ (List.mem_append_right _ (List.mem_append_right _ (List.mem_append_right _ (List.mem_append_right _ (List.mem_append_right _ (List.mem_append_right _ (List.mem_append_right _ (List.mem_append_right _ (List.mem_append_right _ (List.mem_append_right _ (List.mem_append_right _ (List.mem_append_right _ (List.mem_append_right _ (List.mem_append_right _ (List.mem_append_right _ (List.mem_append_right _ (List.mem_append_right _ (List.mem_append_right _ (List.mem_append_right _ (List.mem_append_right _ (List.mem_append_right _ (List.mem_append_right _ (List.mem_append_left _ h)))))))))))))))))))))))))))))))))
theorem mL34 : ∀ w ∈ wU34, w ∈ wsL_law0 := fun _ h => List.mem_append_right _ (List.mem_append_right _ (List.mem_append_right _ (List.mem_append_right _ (List.mem_append_right _ (List.mem_append_right _ (List.mem_append_right _ (List.mem_append_right _ (List.mem_append_right _ (List.mem_append_right _ (List.mem_append_right _ (List.mem_append_right _ (List.mem_append_right _ (List.mem_append_right _ (List.mem_append_right _ (List.mem_append_right _ (List.mem_append_right _ (List.mem_append_right _ (List.mem_append_right _ (List.mem_append_right _ (List.mem_append_right _ (List.mem_append_right _ (List.mem_append_right _ (List.mem_append_right _ (List.mem_append_right _ (List.mem_append_right _ (List.mem_append_right _ (List.mem_append_right _ (List.mem_append_right _ (List.mem_append_right _ (List.mem_append_right _ (List.mem_append_right _ (List.mem_append_right _ (List.mem_append_right _ (List.mem_append_left _ h))))))))))))))))))))))))))))))))))
theorem mL35 : ∀ w ∈ wU35, w ∈ wsL_law0 := fun _ h => List.mem_append_right _ (List.mem_append_right _ (List.mem_append_right _ (List.mem_append_right _ (List.mem_append_right _ (List.mem_append_right _ (List.mem_append_right _ (List.mem_append_right _ (List.mem_append_right _ (List.mem_append_right _ (List.mem_append_right _ (List.mem_append_right _ (List.mem_append_right _ (List.mem_append_right _ (List.mem_append_right _ (List.mem_append_right _ (List.mem_append_right _ (List.mem_append_right _ (List.mem_append_right _ (List.mem_append_right _ (List.mem_append_right _ (List.mem_append_right _ (List.mem_append_right _ (List.mem_append_right _ (List.mem_append_right _ (List.mem_append_right _ (List.mem_append_right _ (List.mem_append_right _ (List.mem_append_right _ (List.mem_append_right _ (List.mem_append_right _ (List.mem_append_right _ (List.mem_append_right _ (List.mem_append_right _ (List.mem_append_right _ (List.mem_append_left _ h)))))))))))))))))))))))))))))))))))
theorem mL36 : ∀ w ∈ wU36, w ∈ wsL_law0 := fun _ h => List.mem_append_right _ (List.mem_append_right _ (List.mem_append_right _ (List.mem_append_right _ (List.mem_append_right _ (List.mem_append_right _ (List.mem_append_right _ (List.mem_append_right _ (List.mem_append_right _ (List.mem_append_right _ (List.mem_append_right _ (List.mem_append_right _ (List.mem_append_right _ (List.mem_append_right _ (List.mem_append_right _ (List.mem_append_right _ (List.mem_append_right _ (List.mem_append_right _ (List.mem_append_right _ (List.mem_append_right _ (List.mem_append_right _ (List.mem_append_right _ (List.mem_append_right _ (List.mem_append_right _ (List.mem_append_right _ (List.mem_append_right _ (List.mem_append_right _ (List.mem_append_right _ (List.mem_append_right _ (List.mem_append_right _ (List.mem_append_right _ (List.mem_append_right _ (List.mem_append_right _ (List.mem_append_right _ (List.mem_append_right _ (List.mem_append_right _ (List.mem_append_left _ h))))))))))))))))))))))))))))))))))))
theorem mL37 : ∀ w ∈ wU37, w ∈ wsL_law0 := fun _ h => List.mem_append_right _ (List.mem_append_right _ (List.mem_append_right _ (List.mem_append_right _ (List.mem_append_right _ (List.mem_append_right _ (List.mem_append_right _ (List.mem_append_right _ (List.mem_append_right _ (List.mem_append_right _ (List.mem_append_right _ (List.mem_append_right _ (List.mem_append_right _ (List.mem_append_right _ (List.mem_append_right _ (List.mem_append_right _ (List.mem_append_right _ (List.mem_append_right _ (List.mem_append_right _ (List.mem_append_right _ (List.mem_append_right _ (List.mem_append_right _ (List.mem_append_right _ (List.mem_append_right _ (List.mem_append_right _ (List.mem_append_right _ (List.mem_append_right _ (List.mem_append_right _ (List.mem_append_right _ (List.mem_append_right _ (List.mem_append_right _ (List.mem_append_right _ (List.mem_append_right _ (List.mem_append_right _ (List.mem_append_right _ (List.mem_append_right _ (List.mem_append_right _ (List.mem_append_left _ h)))))))))))))))))))))))))))))))))))))
theorem mL38 : ∀ w ∈ wU38, w ∈ wsL_law0 := fun _ h => List.mem_append_right _ (List.mem_append_right _ (List.mem_append_right _ (List.mem_append_right _ (List.mem_append_right _ (List.mem_append_right _ (List.mem_append_right _ (List.mem_append_right _ (List.mem_append_right _ (List.mem_append_right _ (List.mem_append_right _ (List.mem_append_right _ (List.mem_append_right _ (List.mem_append_right _ (List.mem_append_right _ (List.mem_append_right _ (List.mem_append_right _ (List.mem_append_right _ (List.mem_append_right _ (List.mem_append_right _ (List.mem_append_right _ (List.mem_append_right _ (List.mem_append_right _ (List.mem_append_right _ (List.mem_append_right _ (List.mem_append_right _ (List.mem_append_right _ (List.mem_append_right _ (List.mem_append_right _ (List.mem_append_right _ (List.mem_append_right _ (List.mem_append_right _ (List.mem_append_right _ (List.mem_append_right _ (List.mem_append_right _ (List.mem_append_right _ (List.mem_append_right _ (List.mem_append_right _ (List.mem_append_left _ h))))))))))))))))))))))))))))))))))))))
theorem mL39 : ∀ w ∈ wU39, w ∈ wsL_law0 := fun _ h => List.mem_append_right _ (List.mem_append_right _ (List.mem_append_right _ (List.mem_append_right _ (List.mem_append_right _ (List.mem_append_right _ (List.mem_append_right _ (List.mem_append_right _ (List.mem_append_right _ (List.mem_append_right _ (List.mem_append_right _ (List.mem_append_right _ (List.mem_append_right _ (List.mem_append_right _ (List.mem_append_right _ (List.mem_append_right _ (List.mem_append_right _ (List.mem_append_right _ (List.mem_append_right _ (List.mem_append_right _ (List.mem_append_right _ (List.mem_append_right _ (List.mem_append_right _ (List.mem_append_right _ (List.mem_append_right _ (List.mem_append_right _ (List.mem_append_right _ (List.mem_append_right _ (List.mem_append_right _ (List.mem_append_right _ (List.mem_append_right _ (List.mem_append_right _ (List.mem_append_right _ (List.mem_append_right _ (List.mem_append_right _ (List.mem_append_right _ (List.mem_append_right _ (List.mem_append_right _ (List.mem_append_right _ (List.mem_append_left _ h)))))))))))))))))))))))))))))))))))))))
theorem mL40 : ∀ w ∈ wU40, w ∈ wsL_law0 := fun _ h => List.mem_append_right _ (List.mem_append_right _ (List.mem_append_right _ (List.mem_append_right _ (List.mem_append_right _ (List.mem_append_right _ (List.mem_append_right _ (List.mem_append_right _ (List.mem_append_right _ (List.mem_append_right _ (List.mem_append_right _ (List.mem_append_right _ (List.mem_append_right _ (List.mem_append_right _ (List.mem_append_right _ (List.mem_append_right _ (List.mem_append_right _ (List.mem_append_right _ (List.mem_append_right _ (List.mem_append_right _ (List.mem_append_right _ (List.mem_append_right _ (List.mem_append_right _ (List.mem_append_right _ (List.mem_append_right _ (List.mem_append_right _ (List.mem_append_right _ (List.mem_append_right _ (List.mem_append_right _ (List.mem_append_right _ (List.mem_append_right _ (List.mem_append_right _ (List.mem_append_right _ (List.mem_append_right _ (List.mem_append_right _ (List.mem_append_right _ (List.mem_append_right _ (List.mem_append_right _ (List.mem_append_right _ (List.mem_append_right _ (List.mem_append_left _ h))))))))))))))))))))))))))))))))))))))))
theorem mL41 : ∀ w ∈ wU41, w ∈ wsL_law0 := fun _ h => List.mem_append_right _ (List.mem_append_right _ (List.mem_append_right _ (List.mem_append_right _ (List.mem_append_right _ (List.mem_append_right _ (List.mem_append_right _ (List.mem_append_right _ (List.mem_append_right _ (List.mem_append_right _ (List.mem_append_right _ (List.mem_append_right _ (List.mem_append_right _ (List.mem_append_right _ (List.mem_append_right _ (List.mem_append_right _ (List.mem_append_right _ (List.mem_append_right _ (List.mem_append_right _ (List.mem_append_right _ (List.mem_append_right _ (List.mem_append_right _ (List.mem_append_right _ (List.mem_append_right _ (List.mem_append_right _ (List.mem_append_right _ (List.mem_append_right _ (List.mem_append_right _ (List.mem_append_right _ (List.mem_append_right _ (List.mem_append_right _ (List.mem_append_right _ (List.mem_append_right _ (List.mem_append_right _ (List.mem_append_right _ (List.mem_append_right _ (List.mem_append_right _ (List.mem_append_right _ (List.mem_append_right _ (List.mem_append_right _ (List.mem_append_right _ (List.mem_append_left _ h)))))))))))))))))))))))))))))))))))))))))
theorem mL42 : ∀ w ∈ wU42, w ∈ wsL_law0 := fun _ h => List.mem_append_right _ (List.mem_append_right _ (List.mem_append_right _ (List.mem_append_right _ (List.mem_append_right _ (List.mem_append_right _ (List.mem_append_right _ (List.mem_append_right _ (List.mem_append_right _ (List.mem_append_right _ (List.mem_append_right _ (List.mem_append_right _ (List.mem_append_right _ (List.mem_append_right _ (List.mem_append_right _ (List.mem_append_right _ (List.mem_append_right _ (List.mem_append_right _ (List.mem_append_right _ (List.mem_append_right _ (List.mem_append_right _ (List.mem_append_right _ (List.mem_append_right _ (List.mem_append_right _ (List.mem_append_right _ (List.mem_append_right _ (List.mem_append_right _ (List.mem_append_right _ (List.mem_append_right _ (List.mem_append_right _ (List.mem_append_right _ (List.mem_append_right _ (List.mem_append_right _ (List.mem_append_right _ (List.mem_append_right _ (List.mem_append_right _ (List.mem_append_right _ (List.mem_append_right _ (List.mem_append_right _ (List.mem_append_right _ (List.mem_append_right _ (List.mem_append_right _ (List.mem_append_left _ h))))))))))))))))))))))))))))))))))))))))))
theorem mL43 : ∀ w ∈ wU43, w ∈ wsL_law0 := fun _ h => List.mem_append_right _ (List.mem_append_right _ (List.mem_append_right _ (List.mem_append_right _ (List.mem_append_right _ (List.mem_append_right _ (List.mem_append_right _ (List.mem_append_right _ (List.mem_append_right _ (List.mem_append_right _ (List.mem_append_right _ (List.mem_append_right _ (List.mem_append_right _ (List.mem_append_right _ (List.mem_append_right _ (List.mem_append_right _ (List.mem_append_right _ (List.mem_append_right _ (List.mem_append_right _ (List.mem_append_right _ (List.mem_append_right _ (List.mem_append_right _ (List.mem_append_right _ (List.mem_append_right _ (List.mem_append_right _ (List.mem_append_right _ (List.mem_append_right _ (List.mem_append_right _ (List.mem_append_right _ (List.mem_append_right _ (List.mem_append_right _ (List.mem_append_right _ (List.mem_append_right _ (List.mem_append_right _ (List.mem_append_right _ (List.mem_append_right _ (List.mem_append_right _ (List.mem_append_right _ (List.mem_append_right _ (List.mem_append_right _ (List.mem_append_right _ (List.mem_append_right _ (List.mem_append_right _ (List.mem_append_left _ h)))))))))))))))))))))))))))))))))))))))))))
theorem mL44 : ∀ w ∈ wU44, w ∈ wsL_law0 := fun _ h => List.mem_append_right _ (List.mem_append_right _ (List.mem_append_right _ (List.mem_append_right _ (List.mem_append_right _ (List.mem_append_right _ (List.mem_append_right _ (List.mem_append_right _ (List.mem_append_right _ (List.mem_append_right _ (List.mem_append_right _ (List.mem_append_right _ (List.mem_append_right _ (List.mem_append_right _ (List.mem_append_right _ (List.mem_append_right _ (List.mem_append_right _ (List.mem_append_right _ (List.mem_append_right _ (List.mem_append_right _ (List.mem_append_right _ (List.mem_append_right _ (List.mem_append_right _ (List.mem_append_right _ (List.mem_append_right _ (List.mem_append_right _ (List.mem_append_right _ (List.mem_append_right _ (List.mem_append_right _ (List.mem_append_right _ (List.mem_append_right _ (List.mem_append_right _ (List.mem_append_right _ (List.mem_append_right _ (List.mem_append_right _ (List.mem_append_right _ (List.mem_append_right _ (List.mem_append_right _ (List.mem_append_right _ (List.mem_append_right _ (List.mem_append_right _ (List.mem_append_right _ (List.mem_append_right _ (List.mem_append_right _ (List.mem_append_left _ h))))))))))))))))))))))))))))))))))))))))))))
theorem mL45 : ∀ w ∈ wU45, w ∈ wsL_law0 := fun _ h => List.mem_append_right _ (List.mem_append_right _ (List.mem_append_right _ (List.mem_append_right _ (List.mem_append_right _ (List.mem_append_right _ (List.mem_append_right _ (List.mem_append_right _ (List.mem_append_right _ (List.mem_append_right _ (List.mem_append_right _ (List.mem_append_right _ (List.mem_append_right _ (List.mem_append_right _ (List.mem_append_right _ (List.mem_append_right _ (List.mem_append_right _ (List.mem_append_right _ (List.mem_append_right _ (List.mem_append_right _ (List.mem_append_right _ (List.mem_append_right _ (List.mem_append_right _ (List.mem_append_right _ (List.mem_append_right _ (List.mem_append_right _ (List.mem_append_right _ (List.mem_append_right _ (List.mem_append_right _ (List.mem_append_right _ (List.mem_append_right _ (List.mem_append_right _ (List.mem_append_right _ (List.mem_append_right _ (List.mem_append_right _ (List.mem_append_right _ (List.mem_append_right _ (List.mem_append_right _ (List.mem_append_right _ (List.mem_append_right _ (List.mem_append_right _ (List.mem_append_right _ (List.mem_append_right _ (List.mem_append_right _ (List.mem_append_right _ (List.mem_append_left _ h)))))))))))))))))))))))))))))))))))))))))))))
theorem mL46 : ∀ w ∈ wU46, w ∈ wsL_law0 := fun _ h => List.mem_append_right _ (List.mem_append_right _ (List.mem_append_right _ (List.mem_append_right _ (List.mem_append_right _ (List.mem_append_right _ (List.mem_append_right _ (List.mem_append_right _ (List.mem_append_right _ (List.mem_append_right _ (List.mem_append_right _ (List.mem_append_right _ (List.mem_append_right _ (List.mem_append_right _ (List.mem_append_right _ (List.mem_append_right _ (List.mem_append_right _ (List.mem_append_right _ (List.mem_append_right _ (List.mem_append_right _ (List.mem_append_right _ (List.mem_append_right _ (List.mem_append_right _ (List.mem_append_right _ (List.mem_append_right _ (List.mem_append_right _ (List.mem_append_right _ (List.mem_append_right _ (List.mem_append_right _ (List.mem_append_right _ (List.mem_append_right _ (List.mem_append_right _ (List.mem_append_right _ (List.mem_append_right _ (List.mem_append_right _ (List.mem_append_right _ (List.mem_append_right _ (List.mem_append_right _ (List.mem_append_right _ (List.mem_append_right _ (List.mem_append_right _ (List.mem_append_right _ (List.mem_append_right _ (List.mem_append_right _ (List.mem_append_right _ (List.mem_append_right _ (List.mem_append_left _ h))))))))))))))))))))))))))))))))))))))))))))))
theorem mL47 : ∀ w ∈ wU47, w ∈ wsL_law0 := fun _ h => List.mem_append_right _ (List.mem_append_right _ (List.mem_append_right _ (List.mem_append_right _ (List.mem_append_right _ (List.mem_append_right _ (List.mem_append_right _ (List.mem_append_right _ (List.mem_append_right _ (List.mem_append_right _ (List.mem_append_right _ (List.mem_append_right _ (List.mem_append_right _ (List.mem_append_right _ (List.mem_append_right _ (List.mem_append_right _ (List.mem_append_right _ (List.mem_append_right _ (List.mem_append_right _ (List.mem_append_right _ (List.mem_append_right _ (List.mem_append_right _ (List.mem_append_right _ (List.mem_append_right _ (List.mem_append_right _ (List.mem_append_right _ (List.mem_append_right _ (List.mem_append_right _ (List.mem_append_right _ (List.mem_append_right _ (List.mem_append_right _ (List.mem_append_right _ (List.mem_append_right _ (List.mem_append_right _ (List.mem_append_right _ (List.mem_append_right _ (List.mem_append_right _ (List.mem_append_right _ (List.mem_append_right _ (List.mem_append_right _ (List.mem_append_right _ (List.mem_append_right _ (List.mem_append_right _ (List.mem_append_right _ (List.mem_append_right _ (List.mem_append_right _ (List.mem_append_right _ (List.mem_append_left _ h)))))))))))))))))))))))))))))))))))))))))))))))
theorem mL48 : ∀ w ∈ wU48, w ∈ wsL_law0 := fun _ h => List.mem_append_right _ (List.mem_append_right _ (List.mem_append_right _ (List.mem_append_right _ (List.mem_append_right _ (List.mem_append_right _ (List.mem_append_right _ (List.mem_append_right _ (List.mem_append_right _ (List.mem_append_right _ (List.mem_append_right _ (List.mem_append_right _ (List.mem_append_right _ (List.mem_append_right _ (List.mem_append_right _ (List.mem_append_right _ (List.mem_append_right _ (List.mem_append_right _ (List.mem_append_right _ (List.mem_append_right _ (List.mem_append_right _ (List.mem_append_right _ (List.mem_append_right _ (List.mem_append_right _ (List.mem_append_right _ (List.mem_append_right _ (List.mem_append_right _ (List.mem_append_right _ (List.mem_append_right _ (List.mem_append_right _ (List.mem_append_right _ (List.mem_append_right _ (List.mem_append_right _ (List.mem_append_right _ (List.mem_append_right _ (List.mem_append_right _ (List.mem_append_right _ (List.mem_append_right _ (List.mem_append_right _ (List.mem_append_right _ (List.mem_append_right _ (List.mem_append_right _ (List.mem_append_right _ (List.mem_append_right _ (List.mem_append_right _ (List.mem_append_right _ (List.mem_append_right _ (List.mem_append_right _ (List.mem_append_left _ h))))))))))))))))))))))))))))))))))))))))))))))))
theorem mL49 : ∀ w ∈ wU49, w ∈ wsL_law0 := fun _ h => List.mem_append_right _ (List.mem_append_right _ (List.mem_append_right _ (List.mem_append_right _ (List.mem_append_right _ (List.mem_append_right _ (List.mem_append_right _ (List.mem_append_right _ (List.mem_append_right _ (List.mem_append_right _ (List.mem_append_right _ (List.mem_append_right _ (List.mem_append_right _ (List.mem_append_right _ (List.mem_append_right _ (List.mem_append_right _ (List.mem_append_right _ (List.mem_append_right _ (List.mem_append_right _ (List.mem_append_right _ (List.mem_append_right _ (List.mem_append_right _ (List.mem_append_right _ (List.mem_append_right _ (List.mem_append_right _ (List.mem_append_right _ (List.mem_append_right _ (List.mem_append_right _ (List.mem_append_right _ (List.mem_append_right _ (List.mem_append_right _ (List.mem_append_right _ (List.mem_append_right _ (List.mem_append_right _ (List.mem_append_right _ (List.mem_append_right _ (List.mem_append_right _ (List.mem_append_right _ (List.mem_append_right _ (List.mem_append_right _ (List.mem_append_right _ (List.mem_append_right _ (List.mem_append_right _ (List.mem_append_right _ (List.mem_append_right _ (List.mem_append_right _ (List.mem_append_right _ (List.mem_append_right _ (List.mem_append_right _ (List.mem_append_left _ h)))))))))))))))))))))))))))))))))))))))))))))))))
theorem mL50 : ∀ w ∈ wU50, w ∈ wsL_law0 := fun _ h => List.mem_append_right _ (List.mem_append_right _ (List.mem_append_right _ (List.mem_append_right _ (List.mem_append_right _ (List.mem_append_right _ (List.mem_append_right _ (List.mem_append_right _ (List.mem_append_right _ (List.mem_append_right _ (List.mem_append_right _ (List.mem_append_right _ (List.mem_append_right _ (List.mem_append_right _ (List.mem_append_right _ (List.mem_append_right _ (List.mem_append_right _ (List.mem_append_right _ (List.mem_append_right _ (List.mem_append_right _ (List.mem_append_right _ (List.mem_append_right _ (List.mem_append_right _ (List.mem_append_right _ (List.mem_append_right _ (List.mem_append_right _ (List.mem_append_right _ (List.mem_append_right _ (List.mem_append_right _ (List.mem_append_right _ (List.mem_append_right _ (List.mem_append_right _ (List.mem_append_right _ (List.mem_append_right _ (List.mem_append_right _ (List.mem_append_right _ (List.mem_append_right _ (List.mem_append_right _ (List.mem_append_right _ (List.mem_append_right _ (List.mem_append_right _ (List.mem_append_right _ (List.mem_append_right _ (List.mem_append_right _ (List.mem_append_right _ (List.mem_append_right _ (List.mem_append_right _ (List.mem_append_right _ (List.mem_append_right _ (List.mem_append_right _ (List.mem_append_left _ h))))))))))))))))))))))))))))))))))))))))))))))))))
theorem mL51 : ∀ w ∈ wU51, w ∈ wsL_law0 := fun _ h => List.mem_append_right _ (List.mem_append_right _ (List.mem_append_right _ (List.mem_append_right _ (List.mem_append_right _ (List.mem_append_right _ (List.mem_append_right _ (List.mem_append_right _ (List.mem_append_right _ (List.mem_append_right _ (List.mem_append_right _ (List.mem_append_right _ (List.mem_append_right _ (List.mem_append_right _ (List.mem_append_right _ (List.mem_append_right _ (List.mem_append_right _ (List.mem_append_right _ (List.mem_append_right _ (List.mem_append_right _ (List.mem_append_right _ (List.mem_append_right _ (List.mem_append_right _ (List.mem_append_right _ (List.mem_append_right _ (List.mem_append_right _ (List.mem_append_right _ (List.mem_append_right _ (List.mem_append_right _ (List.mem_append_right _ (List.mem_append_right _ (List.mem_append_right _ (List.mem_append_right _ (List.mem_append_right _ (List.mem_append_right _ (List.mem_append_right _ (List.mem_append_right _ (List.mem_append_right _ (List.mem_append_right _ (List.mem_append_right _ (List.mem_append_right _ (List.mem_append_right _ (List.mem_append_right _ (List.mem_append_right _ (List.mem_append_right _ (List.mem_append_right _ (List.mem_append_right _ (List.mem_append_right _ (List.mem_append_right _ (List.mem_append_right _ (List.mem_append_right _ (List.mem_append_left _ h)))))))))))))))))))))))))))))))))))))))))))))))))))
theorem mL52 : ∀ w ∈ wU52, w ∈ wsL_law0 := fun _ h => List.mem_append_right _ (List.mem_append_right _ (List.mem_append_right _ (List.mem_append_right _ (List.mem_append_right _ (List.mem_append_right _ (List.mem_append_right _ (List.mem_append_right _ (List.mem_append_right _ (List.mem_append_right _ (List.mem_append_right _ (List.mem_append_right _ (List.mem_append_right _ (List.mem_append_right _ (List.mem_append_right _ (List.mem_append_right _ (List.mem_append_right _ (List.mem_append_right _ (List.mem_append_right _ (List.mem_append_right _ (List.mem_append_right _ (List.mem_append_right _ (List.mem_append_right _ (List.mem_append_right _ (List.mem_append_right _ (List.mem_append_right _ (List.mem_append_right _ (List.mem_append_right _ (List.mem_append_right _ (List.mem_append_right _ (List.mem_append_right _ (List.mem_append_right _ (List.mem_append_right _ (List.mem_append_right _ (List.mem_append_right _ (List.mem_append_right _ (List.mem_append_right _ (List.mem_append_right _ (List.mem_append_right _ (List.mem_append_right _ (List.mem_append_right _ (List.mem_append_right _ (List.mem_append_right _ (List.mem_append_right _ (List.mem_append_right _ (List.mem_append_right _ (List.mem_append_right _ (List.mem_append_right _ (List.mem_append_right _ (List.mem_append_right _ (List.mem_append_right _ (List.mem_append_right _ (List.mem_append_left _ h))))))))))))))))))))))))))))))))))))))))))))))))))))
theorem mL53 : ∀ w ∈ wU53, w ∈ wsL_law0 := fun _ h => List.mem_append_right _ (List.mem_append_right _ (List.mem_append_right _ (List.mem_append_right _ (List.mem_append_right _ (List.mem_append_right _ (List.mem_append_right _ (List.mem_append_right _ (List.mem_append_right _ (List.mem_append_right _ (List.mem_append_right _ (List.mem_append_right _ (List.mem_append_right _ (List.mem_append_right _ (List.mem_append_right _ (List.mem_append_right _ (List.mem_append_right _ (List.mem_append_right _ (List.mem_append_right _ (List.mem_append_right _ (List.mem_append_right _ (List.mem_append_right _ (List.mem_append_right _ (List.mem_append_right _ (List.mem_append_right _ (List.mem_append_right _ (List.mem_append_right _ (List.mem_append_right _ (List.mem_append_right _ (List.mem_append_right _ (List.mem_append_right _ (List.mem_append_right _ (List.mem_append_right _ (List.mem_append_right _ (List.mem_append_right _ (List.mem_append_right _ (List.mem_append_right _ (List.mem_append_right _ (List.mem_append_right _ (List.mem_append_right _ (List.mem_append_right _ (List.mem_append_right _ (List.mem_append_right _ (List.mem_append_right _ (List.mem_append_right _ (List.mem_append_right _ (List.mem_append_right _ (List.mem_append_right _ (List.mem_append_right _ (List.mem_append_right _ (List.mem_append_right _ (List.mem_append_right _ (List.mem_append_right _ (List.mem_append_left _ h)))))))))))))))))))))))))))))))))))))))))))))))))))))
theorem mL54 : ∀ w ∈ wU54, w ∈ wsL_law0 := fun _ h => List.mem_append_right _ (List.mem_append_right _ (List.mem_append_right _ (List.mem_append_right _ (List.mem_append_right _ (List.mem_append_right _ (List.mem_append_right _ (List.mem_append_right _ (List.mem_append_right _ (List.mem_append_right _ (List.mem_append_right _ (List.mem_append_right _ (List.mem_append_right _ (List.mem_append_right _ (List.mem_append_right _ (List.mem_append_right _ (List.mem_append_right _ (List.mem_append_right _ (List.mem_append_right _ (List.mem_append_right _ (List.mem_append_right _ (List.mem_append_right _ (List.mem_append_right _ (List.mem_append_right _ (List.mem_append_right _ (List.mem_append_right _ (List.mem_append_right _ (List.mem_append_right _ (List.mem_append_right _ (List.mem_append_right _ (List.mem_append_right _ (List.mem_append_right _ (List.mem_append_right _ (List.mem_append_right _ (List.mem_append_right _ (List.mem_append_right _ (List.mem_append_right _ (List.mem_append_right _ (List.mem_append_right _ (List.mem_append_right _ (List.mem_append_right _ (List.mem_append_right _ (List.mem_append_right _ (List.mem_append_right _ (List.mem_append_right _ (List.mem_append_right _ (List.mem_append_right _ (List.mem_append_right _ (List.mem_append_right _ (List.mem_append_right _ (List.mem_append_right _ (List.mem_append_right _ (List.mem_append_right _ (List.mem_append_right _ (List.mem_append_left _ h))))))))))))))))))))))))))))))))))))))))))))))))))))))
theorem mL55 : ∀ w ∈ wU55, w ∈ wsL_law0 := fun _ h => List.mem_append_right _ (List.mem_append_right _ (List.mem_append_right _ (List.mem_append_right _ (List.mem_append_right _ (List.mem_append_right _ (List.mem_append_right _ (List.mem_append_right _ (List.mem_append_right _ (List.mem_append_right _ (List.mem_append_right _ (List.mem_append_right _ (List.mem_append_right _ (List.mem_append_right _ (List.mem_append_right _ (List.mem_append_right _ (List.mem_append_right _ (List.mem_append_right _ (List.mem_append_right _ (List.mem_append_right _ (List.mem_append_right _ (List.mem_append_right _ (List.mem_append_right _ (List.mem_append_right _ (List.mem_append_right _ (List.mem_append_right _ (List.mem_append_right _ (List.mem_append_right _ (List.mem_append_right _ (List.mem_append_right _ (List.mem_append_right _ (List.mem_append_right _ (List.mem_append_right _ (List.mem_append_right _ (List.mem_append_right _ (List.mem_append_right _ (List.mem_append_right _ (List.mem_append_right _ (List.mem_append_right _ (List.mem_append_right _ (List.mem_append_right _ (List.mem_append_right _ (List.mem_append_right _ (List.mem_append_right _ (List.mem_append_right _ (List.mem_append_right _ (List.mem_append_right _ (List.mem_append_right _ (List.mem_append_right _ (List.mem_append_right _ (List.mem_append_right _ (List.mem_append_right _ (List.mem_append_right _ (List.mem_append_right _ (List.mem_append_right _ (List.mem_append_left _ h)))))))))))))))))))))))))))))))))))))))))))))))))))))))
theorem mL56 : ∀ w ∈ wU56, w ∈ wsL_law0 := fun _ h => List.mem_append_right _ (List.mem_append_right _ (List.mem_append_right _ (List.mem_append_right _ (List.mem_append_right _ (List.mem_append_right _ (List.mem_append_right _ (List.mem_append_right _ (List.mem_append_right _ (List.mem_append_right _ (List.mem_append_right _ (List.mem_append_right _ (List.mem_append_right _ (List.mem_append_right _ (List.mem_append_right _ (List.mem_append_right _ (List.mem_append_right _ (List.mem_append_right _ (List.mem_append_right _ (List.mem_append_right _ (List.mem_append_right _ (List.mem_append_right _ (List.mem_append_right _ (List.mem_append_right _ (List.mem_append_right _ (List.mem_append_right _ (List.mem_append_right _ (List.mem_append_right _ (List.mem_append_right _ (List.mem_append_right _ (List.mem_append_right _ (List.mem_append_right _ (List.mem_append_right _ (List.mem_append_right _ (List.mem_append_right _ (List.mem_append_right _ (List.mem_append_right _ (List.mem_append_right _ (List.mem_append_right _ (List.mem_append_right _ (List.mem_append_right _ (List.mem_append_right _ (List.mem_append_right _ (List.mem_append_right _ (List.mem_append_right _ (List.mem_append_right _ (List.mem_append_right _ (List.mem_append_right _ (List.mem_append_right _ (List.mem_append_right _ (List.mem_append_right _ (List.mem_append_right _ (List.mem_append_right _ (List.mem_append_right _ (List.mem_append_right _ (List.mem_append_right _ (List.mem_append_left _ h))))))))))))))))))))))))))))))))))))))))))))))))))))))))
theorem mL57 : ∀ w ∈ wU57, w ∈ wsL_law0 := fun _ h => List.mem_append_right _ (List.mem_append_right _ (List.mem_append_right _ (List.mem_append_right _ (List.mem_append_right _ (List.mem_append_right _ (List.mem_append_right _ (List.mem_append_right _ (List.mem_append_right _ (List.mem_append_right _ (List.mem_append_right _ (List.mem_append_right _ (List.mem_append_right _ (List.mem_append_right _ (List.mem_append_right _ (List.mem_append_right _ (List.mem_append_right _ (List.mem_append_right _ (List.mem_append_right _ (List.mem_append_right _ (List.mem_append_right _ (List.mem_append_right _ (List.mem_append_right _ (List.mem_append_right _ (List.mem_append_right _ (List.mem_append_right _ (List.mem_append_right _ (List.mem_append_right _ (List.mem_append_right _ (List.mem_append_right _ (List.mem_append_right _ (List.mem_append_right _ (List.mem_append_right _ (List.mem_append_right _ (List.mem_append_right _ (List.mem_append_right _ (List.mem_append_right _ (List.mem_append_right _ (List.mem_append_right _ (List.mem_append_right _ (List.mem_append_right _ (List.mem_append_right _ (List.mem_append_right _ (List.mem_append_right _ (List.mem_append_right _ (List.mem_append_right _ (List.mem_append_right _ (List.mem_append_right _ (List.mem_append_right _ (List.mem_append_right _ (List.mem_append_right _ (List.mem_append_right _ (List.mem_append_right _ (List.mem_append_right _ (List.mem_append_right _ (List.mem_append_right _ (List.mem_append_right _ (List.mem_append_left _ h)))))))))))))))))))))))))))))))))))))))))))))))))))))))))
theorem mL58 : ∀ w ∈ wU58, w ∈ wsL_law0 := fun _ h => List.mem_append_right _ (List.mem_append_right _ (List.mem_append_right _ (List.mem_append_right _ (List.mem_append_right _ (List.mem_append_right _ (List.mem_append_right _ (List.mem_append_right _ (List.mem_append_right _ (List.mem_append_right _ (List.mem_append_right _ (List.mem_append_right _ (List.mem_append_right _ (List.mem_append_right _ (List.mem_append_right _ (List.mem_append_right _ (List.mem_append_right _ (List.mem_append_right _ (List.mem_append_right _ (List.mem_append_right _ (List.mem_append_right _ (List.mem_append_right _ (List.mem_append_right _ (List.mem_append_right _ (List.mem_append_right _ (List.mem_append_right _ (List.mem_append_right _ (List.mem_append_right _ (List.mem_append_right _ (List.mem_append_right _ (List.mem_append_right _ (List.mem_append_right _ (List.mem_append_right _ (List.mem_append_right _ (List.mem_append_right _ (List.mem_append_right _ (List.mem_append_right _ (List.mem_append_right _ (List.mem_append_right _ (List.mem_append_right _ (List.mem_append_right _ (List.mem_append_right _ (List.mem_append_right _ (List.mem_append_right _ (List.mem_append_right _ (List.mem_append_right _ (List.mem_append_right _ (List.mem_append_right _ (List.mem_append_right _ (List.mem_append_right _ (List.mem_append_right _ (List.mem_append_right _ (List.mem_append_right _ (List.mem_append_right _ (List.mem_append_right _ (List.mem_append_right _ (List.mem_append_right _ (List.mem_append_right _ (List.mem_append_left _ h))))))))))))))))))))))))))))))))))))))))))))))))))))))))))
theorem mL59 : ∀ w ∈ wU59, w ∈ wsL_law0 := fun _ h => List.mem_append_right _ (List.mem_append_right _ (List.mem_append_right _ (List.mem_append_right _ (List.mem_append_right _ (List.mem_append_right _ (List.mem_append_right _ (List.mem_append_right _ (List.mem_append_right _ (List.mem_append_right _ (List.mem_append_right _ (List.mem_append_right _ (List.mem_append_right _ (List.mem_append_right _ (List.mem_append_right _ (List.mem_append_right _ (List.mem_append_right _ (List.mem_append_right _ (List.mem_append_right _ (List.mem_append_right _ (List.mem_append_right _ (List.mem_append_right _ (List.mem_append_right _ (List.mem_append_right _ (List.mem_append_right _ (List.mem_append_right _ (List.mem_append_right _ (List.mem_append_right _ (List.mem_append_right _ (List.mem_append_right _ (List.mem_append_right _ (List.mem_append_right _ (List.mem_append_right _ (List.mem_append_right _ (List.mem_append_right _ (List.mem_append_right _ (List.mem_append_right _ (List.mem_append_right _ (List.mem_append_right _ (List.mem_append_right _ (List.mem_append_right _ (List.mem_append_right _ (List.mem_append_right _ (List.mem_append_right _ (List.mem_append_right _ (List.mem_append_right _ (List.mem_append_right _ (List.mem_append_right _ (List.mem_append_right _ (List.mem_append_right _ (List.mem_append_right _ (List.mem_append_right _ (List.mem_append_right _ (List.mem_append_right _ (List.mem_append_right _ (List.mem_append_right _ (List.mem_append_right _ (List.mem_append_right _ (List.mem_append_right _ (List.mem_append_left _ h)))))))))))))))))))))))))))))))))))))))))))))))))))))))))))
theorem mL60 : ∀ w ∈ wU60, w ∈ wsL_law0 := fun _ h => List.mem_append_right _ (List.mem_append_right _ (List.mem_append_right _ (List.mem_append_right _ (List.mem_append_right _ (List.mem_append_right _ (List.mem_append_right _ (List.mem_append_right _ (List.mem_append_right _ (List.mem_append_right _ (List.mem_append_right _ (List.mem_append_right _ (List.mem_append_right _ (List.mem_append_right _ (List.mem_append_right _ (List.mem_append_right _ (List.mem_append_right _ (List.mem_append_right _ (List.mem_append_right _ (List.mem_append_right _ (List.mem_append_right _ (List.mem_append_right _ (List.mem_append_right _ (List.mem_append_right _ (List.mem_append_right _ (List.mem_append_right _ (List.mem_append_right _ (List.mem_append_right _ (List.mem_append_right _ (List.mem_append_right _ (List.mem_append_right _ (List.mem_append_right _ (List.mem_append_right _ (List.mem_append_right _ (List.mem_append_right _ (List.mem_append_right _ (List.mem_append_right _ (List.mem_append_right _ (List.mem_append_right _ (List.mem_append_right _ (List.mem_append_right _ (List.mem_append_right _ (List.mem_append_right _ (List.mem_append_right _ (List.mem_append_right _ (List.mem_append_right _ (List.mem_append_right _ (List.mem_append_right _ (List.mem_append_right _ (List.mem_append_right _ (List.mem_append_right _ (List.mem_append_right _ (List.mem_append_right _ (List.mem_append_right _ (List.mem_append_right _ (List.mem_append_right _ (List.mem_append_right _ (List.mem_append_right _ (List.mem_append_right _ (List.mem_append_right _ (List.mem_append_left _ h))))))))))))))))))))))))))))))))))))))))))))))))))))))))))))
theorem mL61 : ∀ w ∈ wU61, w ∈ wsL_law0 := fun _ h => List.mem_append_right _ (List.mem_append_right _ (List.mem_append_right _ (List.mem_append_right _ (List.mem_append_right _ (List.mem_append_right _ (List.mem_append_right _ (List.mem_append_right _ (List.mem_append_right _ (List.mem_append_right _ (List.mem_append_right _ (List.mem_append_right _ (List.mem_append_right _ (List.mem_append_right _ (List.mem_append_right _ (List.mem_append_right _ (List.mem_append_right _ (List.mem_append_right _ (List.mem_append_right _ (List.mem_append_right _ (List.mem_append_right _ (List.mem_append_right _ (List.mem_append_right _ (List.mem_append_right _ (List.mem_append_right _ (List.mem_append_right _ (List.mem_append_right _ (List.mem_append_right _ (List.mem_append_right _ (List.mem_append_right _ (List.mem_append_right _ (List.mem_append_right _ (List.mem_append_right _ (List.mem_append_right _ (List.mem_append_right _ (List.mem_append_right _ (List.mem_append_right _ (List.mem_append_right _ (List.mem_append_right _ (List.mem_append_right _ (List.mem_append_right _ (List.mem_append_right _ (List.mem_append_right _ (List.mem_append_right _ (List.mem_append_right _ (List.mem_append_right _ (List.mem_append_right _ (List.mem_append_right _ (List.mem_append_right _ (List.mem_append_right _ (List.mem_append_right _ (List.mem_append_right _ (List.mem_append_right _ (List.mem_append_right _ (List.mem_append_right _ (List.mem_append_right _ (List.mem_append_right _ (List.mem_append_right _ (List.mem_append_right _ (List.mem_append_right _ (List.mem_append_right _ (List.mem_append_left _ h)))))))))))))))))))))))))))))))))))))))))))))))))))))))))))))
theorem mL62 : ∀ w ∈ wU62, w ∈ wsL_law0 := fun _ h => List.mem_append_right _ (List.mem_append_right _ (List.mem_append_right _ (List.mem_append_right _ (List.mem_append_right _ (List.mem_append_right _ (List.mem_append_right _ (List.mem_append_right _ (List.mem_append_right _ (List.mem_append_right _ (List.mem_append_right _ (List.mem_append_right _ (List.mem_append_right _ (List.mem_append_right _ (List.mem_append_right _ (List.mem_append_right _ (List.mem_append_right _ (List.mem_append_right _ (List.mem_append_right _ (List.mem_append_right _ (List.mem_append_right _ (List.mem_append_right _ (List.mem_append_right _ (List.mem_append_right _ (List.mem_append_right _ (List.mem_append_right _ (List.mem_append_right _ (List.mem_append_right _ (List.mem_append_right _ (List.mem_append_right _ (List.mem_append_right _ (List.mem_append_right _ (List.mem_append_right _ (List.mem_append_right _ (List.mem_append_right _ (List.mem_append_right _ (List.mem_append_right _ (List.mem_append_right _ (List.mem_append_right _ (List.mem_append_right _ (List.mem_append_right _ (List.mem_append_right _ (List.mem_append_right _ (List.mem_append_right _ (List.mem_append_right _ (List.mem_append_right _ (List.mem_append_right _ (List.mem_append_right _ (List.mem_append_right _ (List.mem_append_right _ (List.mem_append_right _ (List.mem_append_right _ (List.mem_append_right _ (List.mem_append_right _ (List.mem_append_right _ (List.mem_append_right _ (List.mem_append_right _ (List.mem_append_right _ (List.mem_append_right _ (List.mem_append_right _ (List.mem_append_right _ (List.mem_append_right _ (List.mem_append_left _ h))))))))))))))))))))))))))))))))))))))))))))))))))))))))))))))
theorem mL63 : ∀ w ∈ wU63, w ∈ wsL_law0 := fun _ h => List.mem_append_right _ (List.mem_append_right _ (List.mem_append_right _ (List.mem_append_right _ (List.mem_append_right _ (List.mem_append_right _ (List.mem_append_right _ (List.mem_append_right _ (List.mem_append_right _ (List.mem_append_right _ (List.mem_append_right _ (List.mem_append_right _ (List.mem_append_right _ (List.mem_append_right _ (List.mem_append_right _ (List.mem_append_right _ (List.mem_append_right _ (List.mem_append_right _ (List.mem_append_right _ (List.mem_append_right _ (List.mem_append_right _ (List.mem_append_right _ (List.mem_append_right _ (List.mem_append_right _ (List.mem_append_right _ (List.mem_append_right _ (List.mem_append_right _ (List.mem_append_right _ (List.mem_append_right _ (List.mem_append_right _ (List.mem_append_right _ (List.mem_append_right _ (List.mem_append_right _ (List.mem_append_right _ (List.mem_append_right _ (List.mem_append_right _ (List.mem_append_right _ (List.mem_append_right _ (List.mem_append_right _ (List.mem_append_right _ (List.mem_append_right _ (List.mem_append_right _ (List.mem_append_right _ (List.mem_append_right _ (List.mem_append_right _ (List.mem_append_right _ (List.mem_append_right _ (List.mem_append_right _ (List.mem_append_right _ (List.mem_append_right _ (List.mem_append_right _ (List.mem_append_right _ (List.mem_append_right _ (List.mem_append_right _ (List.mem_append_right _ (List.mem_append_right _ (List.mem_append_right _ (List.mem_append_right _ (List.mem_append_right _ (List.mem_append_right _ (List.mem_append_right _ (List.mem_append_right _ (List.mem_append_right _ (List.mem_append_left _ h)))))))))))))))))))))))))))))))))))))))))))))))))))))))))))))))
theorem mL64 : ∀ w ∈ wU64, w ∈ wsL_law0 := fun _ h => List.mem_append_right _ (List.mem_append_right _ (List.mem_append_right _ (List.mem_append_right _ (List.mem_append_right _ (List.mem_append_right _ (List.mem_append_right _ (List.mem_append_right _ (List.mem_append_right _ (List.mem_append_right _ (List.mem_append_right _ (List.mem_append_right _ (List.mem_append_right _ (List.mem_append_right _ (List.mem_append_right _ (List.mem_append_right _ (List.mem_append_right _ (List.mem_append_right _ (List.mem_append_right _ (List.mem_append_right _ (List.mem_append_right _ (List.mem_append_right _ (List.mem_append_right _ (List.mem_append_right _ (List.mem_append_right _ (List.mem_append_right _ (List.mem_append_right _ (List.mem_append_right _ (List.mem_append_right _ (List.mem_append_right _ (List.mem_append_right _ (List.mem_append_right _ (List.mem_append_right _ (List.mem_append_right _ (List.mem_append_right _ (List.mem_append_right _ (List.mem_append_right _ (List.mem_append_right _ (List.mem_append_right _ (List.mem_append_right _ (List.mem_append_right _ (List.mem_append_right _ (List.mem_append_right _ (List.mem_append_right _ (List.mem_append_right _ (List.mem_append_right _ (List.mem_append_right _ (List.mem_append_right _ (List.mem_append_right _ (List.mem_append_right _ (List.mem_append_right _ (List.mem_append_right _ (List.mem_append_right _ (List.mem_append_right _ (List.mem_append_right _ (List.mem_append_right _ (List.mem_append_right _ (List.mem_append_right _ (List.mem_append_right _ (List.mem_append_right _ (List.mem_append_right _ (List.mem_append_right _ (List.mem_append_right _ (List.mem_append_right _ (List.mem_append_left _ h))))))))))))))))))))))))))))))))))))))))))))))))))))))))))))))))
theorem mL65 : ∀ w ∈ wU65, w ∈ wsL_law0 := fun _ h => List.mem_append_right _ (List.mem_append_right _ (List.mem_append_right _ (List.mem_append_right _ (List.mem_append_right _ (List.mem_append_right _ (List.mem_append_right _ (List.mem_append_right _ (List.mem_append_right _ (List.mem_append_right _ (List.mem_append_right _ (List.mem_append_right _ (List.mem_append_right _ (List.mem_append_right _ (List.mem_append_right _ (List.mem_append_right _ (List.mem_append_right _ (List.mem_append_right _ (List.mem_append_right _ (List.mem_append_right _ (List.mem_append_right _ (List.mem_append_right _ (List.mem_append_right _ (List.mem_append_right _ (List.mem_append_right _ (List.mem_append_right _ (List.mem_append_right _ (List.mem_append_right _ (List.mem_append_right _ (List.mem_append_right _ (List.mem_append_right _ (List.mem_append_right _ (List.mem_append_right _ (List.mem_append_right _ (List.mem_append_right _ (List.mem_append_right _ (List.mem_append_right _ (List.mem_append_right _ (List.mem_append_right _ (List.mem_append_right _ (List.mem_append_right _ (List.mem_append_right _ (List.mem_append_right _ (List.mem_append_right _ (List.mem_append_right _ (List.mem_append_right _ (List.mem_append_right _ (List.mem_append_right _ (List.mem_append_right _ (List.mem_append_right _ (List.mem_append_right _ (List.mem_append_right _ (List.mem_append_right _ (List.mem_append_right _ (List.mem_append_right _ (List.mem_append_right _ (List.mem_append_right _ (List.mem_append_right _ (List.mem_append_right _ (List.mem_append_right _ (List.mem_append_right _ (List.mem_append_right _ (List.mem_append_right _ (List.mem_append_right _ (List.mem_append_right _ (List.mem_append_left _ h)))))))))))))))))))))))))))))))))))))))))))))))))))))))))))))))))
theorem inlX0 : ∀ w ∈ wsX00, w ∈ wsL_law0 := fun _ h => List.mem_append_right _ (List.mem_append_right _ (List.mem_append_right _ (List.mem_append_right _ (List.mem_append_right _ (List.mem_append_right _ (List.mem_append_right _ (List.mem_append_right _ (List.mem_append_right _ (List.mem_append_right _ (List.mem_append_right _ (List.mem_append_right _ (List.mem_append_right _ (List.mem_append_right _ (List.mem_append_right _ (List.mem_append_right _ (List.mem_append_right _ (List.mem_append_right _ (List.mem_append_right _ (List.mem_append_right _ (List.mem_append_right _ (List.mem_append_right _ (List.mem_append_right _ (List.mem_append_right _ (List.mem_append_right _ (List.mem_append_right _ (List.mem_append_right _ (List.mem_append_right _ (List.mem_append_right _ (List.mem_append_right _ (List.mem_append_right _ (List.mem_append_right _ (List.mem_append_right _ (List.mem_append_right _ (List.mem_append_right _ (List.mem_append_right _ (List.mem_append_right _ (List.mem_append_right _ (List.mem_append_right _ (List.mem_append_right _ (List.mem_append_right _ (List.mem_append_right _ (List.mem_append_right _ (List.mem_append_right _ (List.mem_append_right _ (List.mem_append_right _ (List.mem_append_right _ (List.mem_append_right _ (List.mem_append_right _ (List.mem_append_right _ (List.mem_append_right _ (List.mem_append_right _ (List.mem_append_right _ (List.mem_append_right _ (List.mem_append_right _ (List.mem_append_right _ (List.mem_append_right _ (List.mem_append_right _ (List.mem_append_right _ (List.mem_append_right _ (List.mem_append_right _ (List.mem_append_right _ (List.mem_append_right _ (List.mem_append_right _ (List.mem_append_right _ (List.mem_append_right _ (List.mem_append_left _ h))))))))))))))))))))))))))))))))))))))))))))))))))))))))))))))))))
theorem inlX1 : ∀ w ∈ wsX10, w ∈ wsL_law0 := fun _ h => List.mem_append_right _ (List.mem_append_right _ (List.mem_append_right _ (List.mem_append_right _ (List.mem_append_right _ (List.mem_append_right _ (List.mem_append_right _ (List.mem_append_right _ (List.mem_append_right _ (List.mem_append_right _ (List.mem_append_right _ (List.mem_append_right _ (List.mem_append_right _ (List.mem_append_right _ (List.mem_append_right _ (List.mem_append_right _ (List.mem_append_right _ (List.mem_append_right _ (List.mem_append_right _ (List.mem_append_right _ (List.mem_append_right _ (List.mem_append_right _ (List.mem_append_right _ (List.mem_append_right _ (List.mem_append_right _ (List.mem_append_right _ (List.mem_append_right _ (List.mem_append_right _ (List.mem_append_right _ (List.mem_append_right _ (List.mem_append_right _ (List.mem_append_right _ (List.mem_append_right _ (List.mem_append_right _ (List.mem_append_right _ (List.mem_append_right _ (List.mem_append_right _ (List.mem_append_right _ (List.mem_append_right _ (List.mem_append_right _ (List.mem_append_right _ (List.mem_append_right _ (List.mem_append_right _ (List.mem_append_right _ (List.mem_append_right _ (List.mem_append_right _ (List.mem_append_right _ (List.mem_append_right _ (List.mem_append_right _ (List.mem_append_right _ (List.mem_append_right _ (List.mem_append_right _ (List.mem_append_right _ (List.mem_append_right _ (List.mem_append_right _ (List.mem_append_right _ (List.mem_append_right _ (List.mem_append_right _ (List.mem_append_right _ (List.mem_append_right _ (List.mem_append_right _ (List.mem_append_right _ (List.mem_append_right _ (List.mem_append_right _ (List.mem_append_right _ (List.mem_append_right _ (List.mem_append_right _ (List.mem_append_left _ h)))))))))))))))))))))))))))))))))))))))))))))))))))))))))))))))))))
theorem inlX2 : ∀ w ∈ wsX20, w ∈ wsL_law0 := fun _ h => List.mem_append_right _ (List.mem_append_right _ (List.mem_append_right _ (List.mem_append_right _ (List.mem_append_right _ (List.mem_append_right _ (List.mem_append_right _ (List.mem_append_right _ (List.mem_append_right _ (List.mem_append_right _ (List.mem_append_right _ (List.mem_append_right _ (List.mem_append_right _ (List.mem_append_right _ (List.mem_append_right _ (List.mem_append_right _ (List.mem_append_right _ (List.mem_append_right _ (List.mem_append_right _ (List.mem_append_right _ (List.mem_append_right _ (List.mem_append_right _ (List.mem_append_right _ (List.mem_append_right _ (List.mem_append_right _ (List.mem_append_right _ (List.mem_append_right _ (List.mem_append_right _ (List.mem_append_right _ (List.mem_append_right _ (List.mem_append_right _ (List.mem_append_right _ (List.mem_append_right _ (List.mem_append_right _ (List.mem_append_right _ (List.mem_append_right _ (List.mem_append_right _ (List.mem_append_right _ (List.mem_append_right _ (List.mem_append_right _ (List.mem_append_right _ (List.mem_append_right _ (List.mem_append_right _ (List.mem_append_right _ (List.mem_append_right _ (List.mem_append_right _ (List.mem_append_right _ (List.mem_append_right _ (List.mem_append_right _ (List.mem_append_right _ (List.mem_append_right _ (List.mem_append_right _ (List.mem_append_right _ (List.mem_append_right _ (List.mem_append_right _ (List.mem_append_right _ (List.mem_append_right _ (List.mem_append_right _ (List.mem_append_right _ (List.mem_append_right _ (List.mem_append_right _ (List.mem_append_right _ (List.mem_append_right _ (List.mem_append_right _ (List.mem_append_right _ (List.mem_append_right _ (List.mem_append_right _ (List.mem_append_right _ (List.mem_append_left _ h))))))))))))))))))))))))))))))))))))))))))))))))))))))))))))))))))))
theorem inlX3 : ∀ w ∈ wsX30, w ∈ wsL_law0 := fun _ h => List.mem_append_right _ (List.mem_append_right _ (List.mem_append_right _ (List.mem_append_right _ (List.mem_append_right _ (List.mem_append_right _ (List.mem_append_right _ (List.mem_append_right _ (List.mem_append_right _ (List.mem_append_right _ (List.mem_append_right _ (List.mem_append_right _ (List.mem_append_right _ (List.mem_append_right _ (List.mem_append_right _ (List.mem_append_right _ (List.mem_append_right _ (List.mem_append_right _ (List.mem_append_right _ (List.mem_append_right _ (List.mem_append_right _ (List.mem_append_right _ (List.mem_append_right _ (List.mem_append_right _ (List.mem_append_right _ (List.mem_append_right _ (List.mem_append_right _ (List.mem_append_right _ (List.mem_append_right _ (List.mem_append_right _ (List.mem_append_right _ (List.mem_append_right _ (List.mem_append_right _ (List.mem_append_right _ (List.mem_append_right _ (List.mem_append_right _ (List.mem_append_right _ (List.mem_append_right _ (List.mem_append_right _ (List.mem_append_right _ (List.mem_append_right _ (List.mem_append_right _ (List.mem_append_right _ (List.mem_append_right _ (List.mem_append_right _ (List.mem_append_right _ (List.mem_append_right _ (List.mem_append_right _ (List.mem_append_right _ (List.mem_append_right _ (List.mem_append_right _ (List.mem_append_right _ (List.mem_append_right _ (List.mem_append_right _ (List.mem_append_right _ (List.mem_append_right _ (List.mem_append_right _ (List.mem_append_right _ (List.mem_append_right _ (List.mem_append_right _ (List.mem_append_right _ (List.mem_append_right _ (List.mem_append_right _ (List.mem_append_right _ (List.mem_append_right _ (List.mem_append_right _ (List.mem_append_right _ (List.mem_append_right _ (List.mem_append_right _ (List.mem_append_left _ h)))))))))))))))))))))))))))))))))))))))))))))))))))))))))))))))))))))
theorem inlX4 : ∀ w ∈ wsX40, w ∈ wsL_law0 := fun _ h => List.mem_append_right _ (List.mem_append_right _ (List.mem_append_right _ (List.mem_append_right _ (List.mem_append_right _ (List.mem_append_right _ (List.mem_append_right _ (List.mem_append_right _ (List.mem_append_right _ (List.mem_append_right _ (List.mem_append_right _ (List.mem_append_right _ (List.mem_append_right _ (List.mem_append_right _ (List.mem_append_right _ (List.mem_append_right _ (List.mem_append_right _ (List.mem_append_right _ (List.mem_append_right _ (List.mem_append_right _ (List.mem_append_right _ (List.mem_append_right _ (List.mem_append_right _ (List.mem_append_right _ (List.mem_append_right _ (List.mem_append_right _ (List.mem_append_right _ (List.mem_append_right _ (List.mem_append_right _ (List.mem_append_right _ (List.mem_append_right _ (List.mem_append_right _ (List.mem_append_right _ (List.mem_append_right _ (List.mem_append_right _ (List.mem_append_right _ (List.mem_append_right _ (List.mem_append_right _ (List.mem_append_right _ (List.mem_append_right _ (List.mem_append_right _ (List.mem_append_right _ (List.mem_append_right _ (List.mem_append_right _ (List.mem_append_right _ (List.mem_append_right _ (List.mem_append_right _ (List.mem_append_right _ (List.mem_append_right _ (List.mem_append_right _ (List.mem_append_right _ (List.mem_append_right _ (List.mem_append_right _ (List.mem_append_right _ (List.mem_append_right _ (List.mem_append_right _ (List.mem_append_right _ (List.mem_append_right _ (List.mem_append_right _ (List.mem_append_right _ (List.mem_append_right _ (List.mem_append_right _ (List.mem_append_right _ (List.mem_append_right _ (List.mem_append_right _ (List.mem_append_right _ (List.mem_append_right _ (List.mem_append_right _ (List.mem_append_right _ (List.mem_append_right _ (List.mem_append_left _ h))))))))))))))))))))))))))))))))))))))))))))))))))))))))))))))))))))))
theorem inlX5 : ∀ w ∈ wsX50, w ∈ wsL_law0 := fun _ h => List.mem_append_right _ (List.mem_append_right _ (List.mem_append_right _ (List.mem_append_right _ (List.mem_append_right _ (List.mem_append_right _ (List.mem_append_right _ (List.mem_append_right _ (List.mem_append_right _ (List.mem_append_right _ (List.mem_append_right _ (List.mem_append_right _ (List.mem_append_right _ (List.mem_append_right _ (List.mem_append_right _ (List.mem_append_right _ (List.mem_append_right _ (List.mem_append_right _ (List.mem_append_right _ (List.mem_append_right _ (List.mem_append_right _ (List.mem_append_right _ (List.mem_append_right _ (List.mem_append_right _ (List.mem_append_right _ (List.mem_append_right _ (List.mem_append_right _ (List.mem_append_right _ (List.mem_append_right _ (List.mem_append_right _ (List.mem_append_right _ (List.mem_append_right _ (List.mem_append_right _ (List.mem_append_right _ (List.mem_append_right _ (List.mem_append_right _ (List.mem_append_right _ (List.mem_append_right _ (List.mem_append_right _ (List.mem_append_right _ (List.mem_append_right _ (List.mem_append_right _ (List.mem_append_right _ (List.mem_append_right _ (List.mem_append_right _ (List.mem_append_right _ (List.mem_append_right _ (List.mem_append_right _ (List.mem_append_right _ (List.mem_append_right _ (List.mem_append_right _ (List.mem_append_right _ (List.mem_append_right _ (List.mem_append_right _ (List.mem_append_right _ (List.mem_append_right _ (List.mem_append_right _ (List.mem_append_right _ (List.mem_append_right _ (List.mem_append_right _ (List.mem_append_right _ (List.mem_append_right _ (List.mem_append_right _ (List.mem_append_right _ (List.mem_append_right _ (List.mem_append_right _ (List.mem_append_right _ (List.mem_append_right _ (List.mem_append_right _ (List.mem_append_right _ (List.mem_append_right _ (List.mem_append_left _ h)))))))))))))))))))))))))))))))))))))))))))))))))))))))))))))))))))))))
theorem inlX6 : ∀ w ∈ wsX60, w ∈ wsL_law0 := fun _ h => List.mem_append_right _ (List.mem_append_right _ (List.mem_append_right _ (List.mem_append_right _ (List.mem_append_right _ (List.mem_append_right _ (List.mem_append_right _ (List.mem_append_right _ (List.mem_append_right _ (List.mem_append_right _ (List.mem_append_right _ (List.mem_append_right _ (List.mem_append_right _ (List.mem_append_right _ (List.mem_append_right _ (List.mem_append_right _ (List.mem_append_right _ (List.mem_append_right _ (List.mem_append_right _ (List.mem_append_right _ (List.mem_append_right _ (List.mem_append_right _ (List.mem_append_right _ (List.mem_append_right _ (List.mem_append_right _ (List.mem_append_right _ (List.mem_append_right _ (List.mem_append_right _ (List.mem_append_right _ (List.mem_append_right _ (List.mem_append_right _ (List.mem_append_right _ (List.mem_append_right _ (List.mem_append_right _ (List.mem_append_right _ (List.mem_append_right _ (List.mem_append_right _ (List.mem_append_right _ (List.mem_append_right _ (List.mem_append_right _ (List.mem_append_right _ (List.mem_append_right _ (List.mem_append_right _ (List.mem_append_right _ (List.mem_append_right _ (List.mem_append_right _ (List.mem_append_right _ (List.mem_append_right _ (List.mem_append_right _ (List.mem_append_right _ (List.mem_append_right _ (List.mem_append_right _ (List.mem_append_right _ (List.mem_append_right _ (List.mem_append_right _ (List.mem_append_right _ (List.mem_append_right _ (List.mem_append_right _ (List.mem_append_right _ (List.mem_append_right _ (List.mem_append_right _ (List.mem_append_right _ (List.mem_append_right _ (List.mem_append_right _ (List.mem_append_right _ (List.mem_append_right _ (List.mem_append_right _ (List.mem_append_right _ (List.mem_append_right _ (List.mem_append_right _ (List.mem_append_right _ (List.mem_append_right _ (List.mem_append_left _ h))))))))))))))))))))))))))))))))))))))))))))))))))))))))))))))))))))))))
theorem inlX7 : ∀ w ∈ wsX70, w ∈ wsL_law0 := fun _ h => List.mem_append_right _ (List.mem_append_right _ (List.mem_append_right _ (List.mem_append_right _ (List.mem_append_right _ (List.mem_append_right _ (List.mem_append_right _ (List.mem_append_right _ (List.mem_append_right _ (List.mem_append_right _ (List.mem_append_right _ (List.mem_append_right _ (List.mem_append_right _ (List.mem_append_right _ (List.mem_append_right _ (List.mem_append_right _ (List.mem_append_right _ (List.mem_append_right _ (List.mem_append_right _ (List.mem_append_right _ (List.mem_append_right _ (List.mem_append_right _ (List.mem_append_right _ (List.mem_append_right _ (List.mem_append_right _ (List.mem_append_right _ (List.mem_append_right _ (List.mem_append_right _ (List.mem_append_right _ (List.mem_append_right _ (List.mem_append_right _ (List.mem_append_right _ (List.mem_append_right _ (List.mem_append_right _ (List.mem_append_right _ (List.mem_append_right _ (List.mem_append_right _ (List.mem_append_right _ (List.mem_append_right _ (List.mem_append_right _ (List.mem_append_right _ (List.mem_append_right _ (List.mem_append_right _ (List.mem_append_right _ (List.mem_append_right _ (List.mem_append_right _ (List.mem_append_right _ (List.mem_append_right _ (List.mem_append_right _ (List.mem_append_right _ (List.mem_append_right _ (List.mem_append_right _ (List.mem_append_right _ (List.mem_append_right _ (List.mem_append_right _ (List.mem_append_right _ (List.mem_append_right _ (List.mem_append_right _ (List.mem_append_right _ (List.mem_append_right _ (List.mem_append_right _ (List.mem_append_right _ (List.mem_append_right _ (List.mem_append_right _ (List.mem_append_right _ (List.mem_append_right _ (List.mem_append_right _ (List.mem_append_right _ (List.mem_append_right _ (List.mem_append_right _ (List.mem_append_right _ (List.mem_append_right _ (List.mem_append_right _ (List.mem_append_left _ h)))))))))))))))))))))))))))))))))))))))))))))))))))))))))))))))))))))))))
theorem inlX8 : ∀ w ∈ wsX80, w ∈ wsL_law0 := fun _ h => List.mem_append_right _ (List.mem_append_right _ (List.mem_append_right _ (List.mem_append_right _ (List.mem_append_right _ (List.mem_append_right _ (List.mem_append_right _ (List.mem_append_right _ (List.mem_append_right _ (List.mem_append_right _ (List.mem_append_right _ (List.mem_append_right _ (List.mem_append_right _ (List.mem_append_right _ (List.mem_append_right _ (List.mem_append_right _ (List.mem_append_right _ (List.mem_append_right _ (List.mem_append_right _ (List.mem_append_right _ (List.mem_append_right _ (List.mem_append_right _ (List.mem_append_right _ (List.mem_append_right _ (List.mem_append_right _ (List.mem_append_right _ (List.mem_append_right _ (List.mem_append_right _ (List.mem_append_right _ (List.mem_append_right _ (List.mem_append_right _ (List.mem_append_right _ (List.mem_append_right _ (List.mem_append_right _ (List.mem_append_right _ (List.mem_append_right _ (List.mem_append_right _ (List.mem_append_right _ (List.mem_append_right _ (List.mem_append_right _ (List.mem_append_right _ (List.mem_append_right _ (List.mem_append_right _ (List.mem_append_right _ (List.mem_append_right _ (List.mem_append_right _ (List.mem_append_right _ (List.mem_append_right _ (List.mem_append_right _ (List.mem_append_right _ (List.mem_append_right _ (List.mem_append_right _ (List.mem_append_right _ (List.mem_append_right _ (List.mem_append_right _ (List.mem_append_right _ (List.mem_append_right _ (List.mem_append_right _ (List.mem_append_right _ (List.mem_append_right _ (List.mem_append_right _ (List.mem_append_right _ (List.mem_append_right _ (List.mem_append_right _ (List.mem_append_right _ (List.mem_append_right _ (List.mem_append_right _ (List.mem_append_right _ (List.mem_append_right _ (List.mem_append_right _ (List.mem_append_right _ (List.mem_append_right _ (List.mem_append_right _ (List.mem_append_right _ (List.mem_append_left _ h))))))))))))))))))))))))))))))))))))))))))))))))))))))))))))))))))))))))))
theorem inlX9 : ∀ w ∈ wsX90, w ∈ wsL_law0 := fun _ h => List.mem_append_right _ (List.mem_append_right _ (List.mem_append_right _ (List.mem_append_right _ (List.mem_append_right _ (List.mem_append_right _ (List.mem_append_right _ (List.mem_append_right _ (List.mem_append_right _ (List.mem_append_right _ (List.mem_append_right _ (List.mem_append_right _ (List.mem_append_right _ (List.mem_append_right _ (List.mem_append_right _ (List.mem_append_right _ (List.mem_append_right _ (List.mem_append_right _ (List.mem_append_right _ (List.mem_append_right _ (List.mem_append_right _ (List.mem_append_right _ (List.mem_append_right _ (List.mem_append_right _ (List.mem_append_right _ (List.mem_append_right _ (List.mem_append_right _ (List.mem_append_right _ (List.mem_append_right _ (List.mem_append_right _ (List.mem_append_right _ (List.mem_append_right _ (List.mem_append_right _ (List.mem_append_right _ (List.mem_append_right _ (List.mem_append_right _ (List.mem_append_right _ (List.mem_append_right _ (List.mem_append_right _ (List.mem_append_right _ (List.mem_append_right _ (List.mem_append_right _ (List.mem_append_right _ (List.mem_append_right _ (List.mem_append_right _ (List.mem_append_right _ (List.mem_append_right _ (List.mem_append_right _ (List.mem_append_right _ (List.mem_append_right _ (List.mem_append_right _ (List.mem_append_right _ (List.mem_append_right _ (List.mem_append_right _ (List.mem_append_right _ (List.mem_append_right _ (List.mem_append_right _ (List.mem_append_right _ (List.mem_append_right _ (List.mem_append_right _ (List.mem_append_right _ (List.mem_append_right _ (List.mem_append_right _ (List.mem_append_right _ (List.mem_append_right _ (List.mem_append_right _ (List.mem_append_right _ (List.mem_append_right _ (List.mem_append_right _ (List.mem_append_right _ (List.mem_append_right _ (List.mem_append_right _ (List.mem_append_right _ (List.mem_append_right _ (List.mem_append_right _ (List.mem_append_left _ h)))))))))))))))))))))))))))))))))))))))))))))))))))))))))))))))))))))))))))
theorem inlX10 : ∀ w ∈ wsX100, w ∈ wsL_law0 := fun _ h => List.mem_append_right _ (List.mem_append_right _ (List.mem_append_right _ (List.mem_append_right _ (List.mem_append_right _ (List.mem_append_right _ (List.mem_append_right _ (List.mem_append_right _ (List.mem_append_right _ (List.mem_append_right _ (List.mem_append_right _ (List.mem_append_right _ (List.mem_append_right _ (List.mem_append_right _ (List.mem_append_right _ (List.mem_append_right _ (List.mem_append_right _ (List.mem_append_right _ (List.mem_append_right _ (List.mem_append_right _ (List.mem_append_right _ (List.mem_append_right _ (List.mem_append_right _ (List.mem_append_right _ (List.mem_append_right _ (List.mem_append_right _ (List.mem_append_right _ (List.mem_append_right _ (List.mem_append_right _ (List.mem_append_right _ (List.mem_append_right _ (List.mem_append_right _ (List.mem_append_right _ (List.mem_append_right _ (List.mem_append_right _ (List.mem_append_right _ (List.mem_append_right _ (List.mem_append_right _ (List.mem_append_right _ (List.mem_append_right _ (List.mem_append_right _ (List.mem_append_right _ (List.mem_append_right _ (List.mem_append_right _ (List.mem_append_right _ (List.mem_append_right _ (List.mem_append_right _ (List.mem_append_right _ (List.mem_append_right _ (List.mem_append_right _ (List.mem_append_right _ (List.mem_append_right _ (List.mem_append_right _ (List.mem_append_right _ (List.mem_append_right _ (List.mem_append_right _ (List.mem_append_right _ (List.mem_append_right _ (List.mem_append_right _ (List.mem_append_right _ (List.mem_append_right _ (List.mem_append_right _ (List.mem_append_right _ (List.mem_append_right _ (List.mem_append_right _ (List.mem_append_right _ (List.mem_append_right _ (List.mem_append_right _ (List.mem_append_right _ (List.mem_append_right _ (List.mem_append_right _ (List.mem_append_right _ (List.mem_append_right _ (List.mem_append_right _ (List.mem_append_right _ (List.mem_append_right _ (List.mem_append_left _ h))))))))))))))))))))))))))))))))))))))))))))))))))))))))))))))))))))))))))))
theorem inlX11 : ∀ w ∈ wsX110, w ∈ wsL_law0 := fun _ h => List.mem_append_right _ (List.mem_append_right _ (List.mem_append_right _ (List.mem_append_right _ (List.mem_append_right _ (List.mem_append_right _ (List.mem_append_right _ (List.mem_append_right _ (List.mem_append_right _ (List.mem_append_right _ (List.mem_append_right _ (List.mem_append_right _ (List.mem_append_right _ (List.mem_append_right _ (List.mem_append_right _ (List.mem_append_right _ (List.mem_append_right _ (List.mem_append_right _ (List.mem_append_right _ (List.mem_append_right _ (List.mem_append_right _ (List.mem_append_right _ (List.mem_append_right _ (List.mem_append_right _ (List.mem_append_right _ (List.mem_append_right _ (List.mem_append_right _ (List.mem_append_right _ (List.mem_append_right _ (List.mem_append_right _ (List.mem_append_right _ (List.mem_append_right _ (List.mem_append_right _ (List.mem_append_right _ (List.mem_append_right _ (List.mem_append_right _ (List.mem_append_right _ (List.mem_append_right _ (List.mem_append_right _ (List.mem_append_right _ (List.mem_append_right _ (List.mem_append_right _ (List.mem_append_right _ (List.mem_append_right _ (List.mem_append_right _ (List.mem_append_right _ (List.mem_append_right _ (List.mem_append_right _ (List.mem_append_right _ (List.mem_append_right _ (List.mem_append_right _ (List.mem_append_right _ (List.mem_append_right _ (List.mem_append_right _ (List.mem_append_right _ (List.mem_append_right _ (List.mem_append_right _ (List.mem_append_right _ (List.mem_append_right _ (List.mem_append_right _ (List.mem_append_right _ (List.mem_append_right _ (List.mem_append_right _ (List.mem_append_right _ (List.mem_append_right _ (List.mem_append_right _ (List.mem_append_right _ (List.mem_append_right _ (List.mem_append_right _ (List.mem_append_right _ (List.mem_append_right _ (List.mem_append_right _ (List.mem_append_right _ (List.mem_append_right _ (List.mem_append_right _ (List.mem_append_right _ (List.mem_append_right _ (h)))))))))))))))))))))))))))))))))))))))))))))))))))))))))))))))))))))))))))))
theorem mw0 : Cond.classLink RL 8 RX10 ∈ wsL_law0 := mL0 _ (List.mem_of_getElem? (i := 0) rfl)
theorem mw1 : Cond.instantiable RX10 10 ∈ wsL_law0 := mL0 _ (List.mem_of_getElem? (i := 1) rfl)
theorem mw2 : Cond.initialized RX10 ∈ wsL_law0 := mL0 _ (List.mem_of_getElem? (i := 2) rfl)
theorem mw3 : Cond.classLink RL 16 RX11 ∈ wsL_law0 := mL0 _ (List.mem_of_getElem? (i := 3) rfl)
theorem mw4 : Cond.instantiable RX11 43 ∈ wsL_law0 := mL0 _ (List.mem_of_getElem? (i := 4) rfl)
theorem mw5 : Cond.initialized RX11 ∈ wsL_law0 := mL0 _ (List.mem_of_getElem? (i := 5) rfl)
theorem mw6 : Cond.arrayClass .long ∈ wsL_law0 := mL0 _ (List.mem_of_getElem? (i := 6) rfl)
theorem mw7 : Cond.methodLink RL 15 yX10_init ∈ wsL_law0 := mL0 _ (List.mem_of_getElem? (i := 7) rfl)
theorem mw8 : Cond.instanceMethod yX10_init ∈ wsL_law0 := mL0 _ (List.mem_of_getElem? (i := 8) rfl)
theorem mw9 : Cond.code yX10_init cX10_init 1 none ∈ wsL_law0 := mL0 _ (List.mem_of_getElem? (i := 9) rfl)
theorem mw10 : Cond.methodLink RX10 1 objectInit ∈ wsL_law0 := mL0 _ (List.mem_of_getElem? (i := 10) rfl)
theorem mw11 : Cond.instanceMethod objectInit ∈ wsL_law0 := mL0 _ (List.mem_of_getElem? (i := 11) rfl)
theorem mw12 : Cond.code objectInit ⟨#[0xb1]⟩ 1 none ∈ wsL_law0 := mL0 _ (List.mem_of_getElem? (i := 12) rfl)
theorem mw13 : Cond.classLink RX10 7 RX9 ∈ wsL_law0 := mL0 _ (List.mem_of_getElem? (i := 13) rfl)
theorem mw14 : Cond.instantiable RX9 15 ∈ wsL_law0 := mL0 _ (List.mem_of_getElem? (i := 14) rfl)
theorem mw15 : Cond.initialized RX9 ∈ wsL_law0 := mL0 _ (List.mem_of_getElem? (i := 15) rfl)
theorem mw16 : Cond.fieldLink RX10 10 "ReelChange" "text" "LReelChange$Text;" ∈ wsL_law0 := mL0 _ (List.mem_of_getElem? (i := 16) rfl)
theorem mw17 : Cond.classLink RX10 16 RX3 ∈ wsL_law0 := mL0 _ (List.mem_of_getElem? (i := 17) rfl)
theorem mw18 : Cond.instantiable RX3 8 ∈ wsL_law0 := mL0 _ (List.mem_of_getElem? (i := 18) rfl)
theorem mw19 : Cond.initialized RX3 ∈ wsL_law0 := mL0 _ (List.mem_of_getElem? (i := 19) rfl)
theorem mw20 : Cond.fieldLink RX10 19 "ReelChange" "told" "LReelChange$House;" ∈ wsL_law0 := mL0 _ (List.mem_of_getElem? (i := 20) rfl)
theorem mw21 : Cond.classLink RX10 23 RX7 ∈ wsL_law0 := mL0 _ (List.mem_of_getElem? (i := 21) rfl)
theorem mw22 : Cond.instantiable RX7 6 ∈ wsL_law0 := mL0 _ (List.mem_of_getElem? (i := 22) rfl)
theorem mw23 : Cond.initialized RX7 ∈ wsL_law0 := mL0 _ (List.mem_of_getElem? (i := 23) rfl)
theorem mw24 : Cond.fieldLink RX10 26 "ReelChange" "now" "LReelChange$State;" ∈ wsL_law0 := mL1 _ (List.mem_of_getElem? (i := 0) rfl)
theorem mw25 : Cond.classLink RX10 30 RX4 ∈ wsL_law0 := mL1 _ (List.mem_of_getElem? (i := 1) rfl)
theorem mw26 : Cond.instantiable RX4 5 ∈ wsL_law0 := mL1 _ (List.mem_of_getElem? (i := 2) rfl)
theorem mw27 : Cond.initialized RX4 ∈ wsL_law0 := mL1 _ (List.mem_of_getElem? (i := 3) rfl)
theorem mw28 : Cond.fieldLink RX10 33 "ReelChange" "kept" "LReelChange$Kept;" ∈ wsL_law0 := mL1 _ (List.mem_of_getElem? (i := 4) rfl)
theorem mw29 : Cond.classLink RX10 37 RX5 ∈ wsL_law0 := mL1 _ (List.mem_of_getElem? (i := 5) rfl)
theorem mw30 : Cond.instantiable RX5 9 ∈ wsL_law0 := mL1 _ (List.mem_of_getElem? (i := 6) rfl)
theorem mw31 : Cond.initialized RX5 ∈ wsL_law0 := mL1 _ (List.mem_of_getElem? (i := 7) rfl)
theorem mw32 : Cond.fieldLink RX10 40 "ReelChange" "night" "LReelChange$Night;" ∈ wsL_law0 := mL1 _ (List.mem_of_getElem? (i := 8) rfl)
theorem mw33 : Cond.classLink RX10 44 RX0 ∈ wsL_law0 := mL1 _ (List.mem_of_getElem? (i := 9) rfl)
theorem mw34 : Cond.instantiable RX0 2 ∈ wsL_law0 := mL1 _ (List.mem_of_getElem? (i := 10) rfl)
theorem mw35 : Cond.initialized RX0 ∈ wsL_law0 := mL1 _ (List.mem_of_getElem? (i := 11) rfl)
theorem mw36 : Cond.fieldLink RX10 47 "ReelChange" "arcs" "LReelChange$Arcs;" ∈ wsL_law0 := mL1 _ (List.mem_of_getElem? (i := 12) rfl)
theorem mw37 : Cond.classLink RX10 51 RX6 ∈ wsL_law0 := mL1 _ (List.mem_of_getElem? (i := 13) rfl)
theorem mw38 : Cond.instantiable RX6 3 ∈ wsL_law0 := mL1 _ (List.mem_of_getElem? (i := 14) rfl)
theorem mw39 : Cond.initialized RX6 ∈ wsL_law0 := mL1 _ (List.mem_of_getElem? (i := 15) rfl)
theorem mw40 : Cond.fieldLink RX10 54 "ReelChange" "riders" "LReelChange$Riders;" ∈ wsL_law0 := mL1 _ (List.mem_of_getElem? (i := 16) rfl)
theorem mw41 : Cond.classLink RX10 58 RX1 ∈ wsL_law0 := mL1 _ (List.mem_of_getElem? (i := 17) rfl)
theorem mw42 : Cond.instantiable RX1 3 ∈ wsL_law0 := mL1 _ (List.mem_of_getElem? (i := 18) rfl)
theorem mw43 : Cond.initialized RX1 ∈ wsL_law0 := mL1 _ (List.mem_of_getElem? (i := 19) rfl)
theorem mw44 : Cond.fieldLink RX10 61 "ReelChange" "exchanger" "LReelChange$Exchanger;" ∈ wsL_law0 := mL1 _ (List.mem_of_getElem? (i := 20) rfl)
theorem mw45 : Cond.classLink RX10 65 RX2 ∈ wsL_law0 := mL1 _ (List.mem_of_getElem? (i := 21) rfl)
theorem mw46 : Cond.instantiable RX2 2 ∈ wsL_law0 := mL1 _ (List.mem_of_getElem? (i := 22) rfl)
theorem mw47 : Cond.initialized RX2 ∈ wsL_law0 := mL1 _ (List.mem_of_getElem? (i := 23) rfl)
theorem mw48 : Cond.fieldLink RX10 68 "ReelChange" "fraction" "LReelChange$Fraction;" ∈ wsL_law0 := mL2 _ (List.mem_of_getElem? (i := 0) rfl)
theorem mw49 : Cond.fieldLink RX10 72 "ReelChange" "latestTrouble" "I" ∈ wsL_law0 := mL2 _ (List.mem_of_getElem? (i := 1) rfl)
theorem mw50 : Cond.instanceMethod yX9_init ∈ wsL_law0 := mL2 _ (List.mem_of_getElem? (i := 2) rfl)
theorem mw51 : Cond.code yX9_init cX9_init 1 none ∈ wsL_law0 := mL2 _ (List.mem_of_getElem? (i := 3) rfl)
theorem mw52 : Cond.methodLink RX9 3 objectInit ∈ wsL_law0 := mL2 _ (List.mem_of_getElem? (i := 4) rfl)
theorem mw53 : Cond.fieldLink RX9 9 "ReelChange$Text" "taped" "I" ∈ wsL_law0 := mL2 _ (List.mem_of_getElem? (i := 5) rfl)
theorem mw54 : Cond.classLink RX9 15 RX3 ∈ wsL_law0 := mL2 _ (List.mem_of_getElem? (i := 6) rfl)
theorem mw55 : Cond.fieldLink RX9 18 "ReelChange$Text" "house" "LReelChange$House;" ∈ wsL_law0 := mL2 _ (List.mem_of_getElem? (i := 7) rfl)
theorem mw56 : Cond.fieldLink RX9 22 "ReelChange$Text" "faultNumber" "I" ∈ wsL_law0 := mL2 _ (List.mem_of_getElem? (i := 8) rfl)
theorem mw57 : Cond.fieldLink RX9 25 "ReelChange$Text" "faultPlace" "I" ∈ wsL_law0 := mL2 _ (List.mem_of_getElem? (i := 9) rfl)
theorem mw58 : Cond.arrayClass .byte ∈ wsL_law0 := mL2 _ (List.mem_of_getElem? (i := 10) rfl)
theorem mw59 : Cond.fieldLink RX9 28 "ReelChange$Text" "tape" "[B" ∈ wsL_law0 := mL2 _ (List.mem_of_getElem? (i := 11) rfl)
theorem mw60 : Cond.fieldLink RX9 32 "ReelChange$Text" "end" "I" ∈ wsL_law0 := mL2 _ (List.mem_of_getElem? (i := 12) rfl)
theorem mw61 : Cond.fieldLink RX9 35 "ReelChange$Text" "names" "[J" ∈ wsL_law0 := mL2 _ (List.mem_of_getElem? (i := 13) rfl)
theorem mw62 : Cond.classLink RX9 39 RX8 ∈ wsL_law0 := mL2 _ (List.mem_of_getElem? (i := 14) rfl)
theorem mw63 : Cond.instantiable RX8 4 ∈ wsL_law0 := mL2 _ (List.mem_of_getElem? (i := 15) rfl)
theorem mw64 : Cond.initialized RX8 ∈ wsL_law0 := mL2 _ (List.mem_of_getElem? (i := 16) rfl)
theorem mw65 : Cond.fieldLink RX9 44 "ReelChange$Text" "named" "LReelChange$Table;" ∈ wsL_law0 := mL2 _ (List.mem_of_getElem? (i := 17) rfl)
theorem mw66 : Cond.fieldLink RX9 48 "ReelChange$Text" "kind" "I" ∈ wsL_law0 := mL2 _ (List.mem_of_getElem? (i := 18) rfl)
theorem mw67 : Cond.fieldLink RX9 51 "ReelChange$Text" "start" "I" ∈ wsL_law0 := mL2 _ (List.mem_of_getElem? (i := 19) rfl)
theorem mw68 : Cond.fieldLink RX9 54 "ReelChange$Text" "position" "I" ∈ wsL_law0 := mL2 _ (List.mem_of_getElem? (i := 20) rfl)
theorem mw69 : Cond.fieldLink RX9 57 "ReelChange$Text" "value" "I" ∈ wsL_law0 := mL2 _ (List.mem_of_getElem? (i := 21) rfl)
theorem mw70 : Cond.fieldLink RX9 60 "ReelChange$Text" "letters" "J" ∈ wsL_law0 := mL2 _ (List.mem_of_getElem? (i := 22) rfl)
theorem mw71 : Cond.fieldLink RX9 64 "ReelChange$Text" "taken" "I" ∈ wsL_law0 := mL2 _ (List.mem_of_getElem? (i := 23) rfl)
theorem mw72 : Cond.fieldLink RX9 67 "ReelChange$Text" "takenAt" "I" ∈ wsL_law0 := mL3 _ (List.mem_of_getElem? (i := 0) rfl)
theorem mw73 : Cond.instanceMethod yX3_init ∈ wsL_law0 := mL3 _ (List.mem_of_getElem? (i := 1) rfl)
theorem mw74 : Cond.code yX3_init cX3_init 1 none ∈ wsL_law0 := mL3 _ (List.mem_of_getElem? (i := 2) rfl)
theorem mw75 : Cond.methodLink RX3 1 objectInit ∈ wsL_law0 := mL3 _ (List.mem_of_getElem? (i := 3) rfl)
theorem mw76 : Cond.classLink RX3 7 RX7 ∈ wsL_law0 := mL3 _ (List.mem_of_getElem? (i := 4) rfl)
theorem mw77 : Cond.fieldLink RX3 10 "ReelChange$House" "atFirst" "LReelChange$State;" ∈ wsL_law0 := mL3 _ (List.mem_of_getElem? (i := 5) rfl)
theorem mw78 : Cond.classLink RX3 16 RX8 ∈ wsL_law0 := mL3 _ (List.mem_of_getElem? (i := 6) rfl)
theorem mw79 : Cond.fieldLink RX3 21 "ReelChange$House" "numbers" "LReelChange$Table;" ∈ wsL_law0 := mL3 _ (List.mem_of_getElem? (i := 7) rfl)
theorem mw80 : Cond.fieldLink RX3 25 "ReelChange$House" "towns" "LReelChange$Table;" ∈ wsL_law0 := mL3 _ (List.mem_of_getElem? (i := 8) rfl)
theorem mw81 : Cond.fieldLink RX3 28 "ReelChange$House" "joins" "LReelChange$Table;" ∈ wsL_law0 := mL3 _ (List.mem_of_getElem? (i := 9) rfl)
theorem mw82 : Cond.fieldLink RX3 31 "ReelChange$House" "men" "LReelChange$Table;" ∈ wsL_law0 := mL3 _ (List.mem_of_getElem? (i := 10) rfl)
theorem mw83 : Cond.fieldLink RX3 34 "ReelChange$House" "boys" "LReelChange$Table;" ∈ wsL_law0 := mL3 _ (List.mem_of_getElem? (i := 11) rfl)
theorem mw84 : Cond.fieldLink RX3 37 "ReelChange$House" "signs" "LReelChange$Table;" ∈ wsL_law0 := mL3 _ (List.mem_of_getElem? (i := 12) rfl)
theorem mw85 : Cond.fieldLink RX3 40 "ReelChange$House" "scratches" "LReelChange$Table;" ∈ wsL_law0 := mL3 _ (List.mem_of_getElem? (i := 13) rfl)
theorem mw86 : Cond.instanceMethod yX7_init ∈ wsL_law0 := mL3 _ (List.mem_of_getElem? (i := 14) rfl)
theorem mw87 : Cond.code yX7_init cX7_init 1 none ∈ wsL_law0 := mL3 _ (List.mem_of_getElem? (i := 15) rfl)
theorem mw88 : Cond.methodLink RX7 3 objectInit ∈ wsL_law0 := mL3 _ (List.mem_of_getElem? (i := 16) rfl)
theorem mw89 : Cond.classLink RX7 9 RX8 ∈ wsL_law0 := mL3 _ (List.mem_of_getElem? (i := 17) rfl)
theorem mw90 : Cond.fieldLink RX7 14 "ReelChange$State" "reels" "LReelChange$Table;" ∈ wsL_law0 := mL3 _ (List.mem_of_getElem? (i := 18) rfl)
theorem mw91 : Cond.fieldLink RX7 20 "ReelChange$State" "marks" "LReelChange$Table;" ∈ wsL_law0 := mL3 _ (List.mem_of_getElem? (i := 19) rfl)
theorem mw92 : Cond.fieldLink RX7 23 "ReelChange$State" "weaks" "LReelChange$Table;" ∈ wsL_law0 := mL3 _ (List.mem_of_getElem? (i := 20) rfl)
theorem mw93 : Cond.fieldLink RX7 26 "ReelChange$State" "places" "LReelChange$Table;" ∈ wsL_law0 := mL3 _ (List.mem_of_getElem? (i := 21) rfl)
theorem mw94 : Cond.fieldLink RX7 29 "ReelChange$State" "mended" "I" ∈ wsL_law0 := mL3 _ (List.mem_of_getElem? (i := 22) rfl)
theorem mw95 : Cond.fieldLink RX7 33 "ReelChange$State" "trims" "I" ∈ wsL_law0 := mL3 _ (List.mem_of_getElem? (i := 23) rfl)
theorem mw96 : Cond.methodLink RX7 11 yX8_init ∈ wsL_law0 := mL4 _ (List.mem_of_getElem? (i := 0) rfl)
theorem mw97 : Cond.instanceMethod yX8_init ∈ wsL_law0 := mL4 _ (List.mem_of_getElem? (i := 1) rfl)
theorem mw98 : Cond.code yX8_init cX8_init 3 none ∈ wsL_law0 := mL4 _ (List.mem_of_getElem? (i := 2) rfl)
theorem mw99 : Cond.methodLink RX8 1 objectInit ∈ wsL_law0 := mL4 _ (List.mem_of_getElem? (i := 3) rfl)
theorem mw100 : Cond.fieldLink RX8 7 "ReelChange$Table" "count" "I" ∈ wsL_law0 := mL4 _ (List.mem_of_getElem? (i := 4) rfl)
theorem mw101 : Cond.methodLink RX8 13 Lib.Math.max.name ∈ wsL_law0 := mL4 _ (List.mem_of_getElem? (i := 5) rfl)
theorem mw102 : Cond.static Lib.Math.max.name ∈ wsL_law0 := mL4 _ (List.mem_of_getElem? (i := 6) rfl)
theorem mw103 : Cond.initialized "java/lang/Math" ∈ wsL_law0 := mL4 _ (List.mem_of_getElem? (i := 7) rfl)
theorem mw104 : Cond.code Lib.Math.max.name Lib.Math.max.code 2 (some .int) ∈ wsL_law0 := mL4 _ (List.mem_of_getElem? (i := 8) rfl)
theorem mw105 : Cond.fieldLink RX8 19 "ReelChange$Table" "room" "I" ∈ wsL_law0 := mL4 _ (List.mem_of_getElem? (i := 9) rfl)
theorem mw106 : Cond.fieldLink RX8 22 "ReelChange$Table" "width" "I" ∈ wsL_law0 := mL4 _ (List.mem_of_getElem? (i := 10) rfl)
theorem mw107 : Cond.arrayClass .int ∈ wsL_law0 := mL4 _ (List.mem_of_getElem? (i := 11) rfl)
theorem mw108 : Cond.fieldLink RX8 25 "ReelChange$Table" "cells" "[I" ∈ wsL_law0 := mL4 _ (List.mem_of_getElem? (i := 12) rfl)
theorem mw109 : Cond.methodLink RX3 18 yX8_init ∈ wsL_law0 := mL4 _ (List.mem_of_getElem? (i := 13) rfl)
theorem mw110 : Cond.methodLink RX9 41 yX8_init ∈ wsL_law0 := mL4 _ (List.mem_of_getElem? (i := 14) rfl)
theorem mw111 : Cond.methodLink RX10 32 yX4_init ∈ wsL_law0 := mL4 _ (List.mem_of_getElem? (i := 15) rfl)
theorem mw112 : Cond.instanceMethod yX4_init ∈ wsL_law0 := mL4 _ (List.mem_of_getElem? (i := 16) rfl)
theorem mw113 : Cond.code yX4_init cX4_init 2 none ∈ wsL_law0 := mL4 _ (List.mem_of_getElem? (i := 17) rfl)
theorem mw114 : Cond.methodLink RX4 3 objectInit ∈ wsL_law0 := mL4 _ (List.mem_of_getElem? (i := 18) rfl)
theorem mw115 : Cond.classLink RX4 11 RX7 ∈ wsL_law0 := mL4 _ (List.mem_of_getElem? (i := 19) rfl)
theorem mw116 : Cond.fieldLink RX4 13 "ReelChange$Kept" "ahead" "[LReelChange$State;" ∈ wsL_law0 := mL4 _ (List.mem_of_getElem? (i := 20) rfl)
theorem mw117 : Cond.fieldLink RX4 17 "ReelChange$Kept" "images" "[LReelChange$State;" ∈ wsL_law0 := mL4 _ (List.mem_of_getElem? (i := 21) rfl)
theorem mw118 : Cond.fieldLink RX4 20 "ReelChange$Kept" "acts" "I" ∈ wsL_law0 := mL4 _ (List.mem_of_getElem? (i := 22) rfl)
theorem mw119 : Cond.fieldLink RX4 24 "ReelChange$Kept" "next" "I" ∈ wsL_law0 := mL4 _ (List.mem_of_getElem? (i := 23) rfl)
theorem mw120 : Cond.fieldLink RX4 27 "ReelChange$Kept" "imaged" "I" ∈ wsL_law0 := mL5 _ (List.mem_of_getElem? (i := 0) rfl)
theorem mw121 : Cond.instanceMethod yX5_init ∈ wsL_law0 := mL5 _ (List.mem_of_getElem? (i := 1) rfl)
theorem mw122 : Cond.code yX5_init cX5_init 1 none ∈ wsL_law0 := mL5 _ (List.mem_of_getElem? (i := 2) rfl)
theorem mw123 : Cond.methodLink RX5 3 objectInit ∈ wsL_law0 := mL5 _ (List.mem_of_getElem? (i := 3) rfl)
theorem mw124 : Cond.classLink RX5 9 RX8 ∈ wsL_law0 := mL5 _ (List.mem_of_getElem? (i := 4) rfl)
theorem mw125 : Cond.fieldLink RX5 14 "ReelChange$Night" "rows" "LReelChange$Table;" ∈ wsL_law0 := mL5 _ (List.mem_of_getElem? (i := 5) rfl)
theorem mw126 : Cond.fieldLink RX5 20 "ReelChange$Night" "snapped" "I" ∈ wsL_law0 := mL5 _ (List.mem_of_getElem? (i := 6) rfl)
theorem mw127 : Cond.fieldLink RX5 24 "ReelChange$Night" "mostSlip" "I" ∈ wsL_law0 := mL5 _ (List.mem_of_getElem? (i := 7) rfl)
theorem mw128 : Cond.fieldLink RX5 27 "ReelChange$Night" "slip" "I" ∈ wsL_law0 := mL5 _ (List.mem_of_getElem? (i := 8) rfl)
theorem mw129 : Cond.fieldLink RX5 30 "ReelChange$Night" "isDrawn" "Z" ∈ wsL_law0 := mL5 _ (List.mem_of_getElem? (i := 9) rfl)
theorem mw130 : Cond.fieldLink RX5 34 "ReelChange$Night" "seed" "I" ∈ wsL_law0 := mL5 _ (List.mem_of_getElem? (i := 10) rfl)
theorem mw131 : Cond.fieldLink RX5 37 "ReelChange$Night" "tick" "I" ∈ wsL_law0 := mL5 _ (List.mem_of_getElem? (i := 11) rfl)
theorem mw132 : Cond.fieldLink RX5 40 "ReelChange$Night" "motorTick" "I" ∈ wsL_law0 := mL5 _ (List.mem_of_getElem? (i := 12) rfl)
theorem mw133 : Cond.fieldLink RX5 43 "ReelChange$Night" "ahead" "I" ∈ wsL_law0 := mL5 _ (List.mem_of_getElem? (i := 13) rfl)
theorem mw134 : Cond.methodLink RX5 11 yX8_init ∈ wsL_law0 := mL5 _ (List.mem_of_getElem? (i := 14) rfl)
theorem mw135 : Cond.instanceMethod yX0_init ∈ wsL_law0 := mL5 _ (List.mem_of_getElem? (i := 15) rfl)
theorem mw136 : Cond.code yX0_init cX0_init 1 none ∈ wsL_law0 := mL5 _ (List.mem_of_getElem? (i := 16) rfl)
theorem mw137 : Cond.methodLink RX0 3 objectInit ∈ wsL_law0 := mL5 _ (List.mem_of_getElem? (i := 17) rfl)
theorem mw138 : Cond.classLink RX0 9 RX8 ∈ wsL_law0 := mL5 _ (List.mem_of_getElem? (i := 18) rfl)
theorem mw139 : Cond.fieldLink RX0 14 "ReelChange$Arcs" "left" "LReelChange$Table;" ∈ wsL_law0 := mL5 _ (List.mem_of_getElem? (i := 19) rfl)
theorem mw140 : Cond.fieldLink RX0 20 "ReelChange$Arcs" "dying" "I" ∈ wsL_law0 := mL5 _ (List.mem_of_getElem? (i := 20) rfl)
theorem mw141 : Cond.methodLink RX0 11 yX8_init ∈ wsL_law0 := mL5 _ (List.mem_of_getElem? (i := 21) rfl)
theorem mw142 : Cond.instanceMethod yX6_init ∈ wsL_law0 := mL5 _ (List.mem_of_getElem? (i := 22) rfl)
theorem mw143 : Cond.code yX6_init cX6_init 1 none ∈ wsL_law0 := mL5 _ (List.mem_of_getElem? (i := 23) rfl)
theorem mw144 : Cond.methodLink RX6 3 objectInit ∈ wsL_law0 := mL6 _ (List.mem_of_getElem? (i := 0) rfl)
theorem mw145 : Cond.classLink RX6 9 RX8 ∈ wsL_law0 := mL6 _ (List.mem_of_getElem? (i := 1) rfl)
theorem mw146 : Cond.fieldLink RX6 14 "ReelChange$Riders" "backAt" "LReelChange$Table;" ∈ wsL_law0 := mL6 _ (List.mem_of_getElem? (i := 2) rfl)
theorem mw147 : Cond.fieldLink RX6 20 "ReelChange$Riders" "apartNeeded" "I" ∈ wsL_law0 := mL6 _ (List.mem_of_getElem? (i := 3) rfl)
theorem mw148 : Cond.fieldLink RX6 24 "ReelChange$Riders" "waited" "I" ∈ wsL_law0 := mL6 _ (List.mem_of_getElem? (i := 4) rfl)
theorem mw149 : Cond.methodLink RX6 11 yX8_init ∈ wsL_law0 := mL6 _ (List.mem_of_getElem? (i := 5) rfl)
theorem mw150 : Cond.instanceMethod yX1_init ∈ wsL_law0 := mL6 _ (List.mem_of_getElem? (i := 6) rfl)
theorem mw151 : Cond.code yX1_init cX1_init 1 none ∈ wsL_law0 := mL6 _ (List.mem_of_getElem? (i := 7) rfl)
theorem mw152 : Cond.methodLink RX1 3 objectInit ∈ wsL_law0 := mL6 _ (List.mem_of_getElem? (i := 8) rfl)
theorem mw153 : Cond.classLink RX1 9 RX8 ∈ wsL_law0 := mL6 _ (List.mem_of_getElem? (i := 9) rfl)
theorem mw154 : Cond.fieldLink RX1 16 "ReelChange$Exchanger" "inOrder" "LReelChange$Table;" ∈ wsL_law0 := mL6 _ (List.mem_of_getElem? (i := 10) rfl)
theorem mw155 : Cond.fieldLink RX1 20 "ReelChange$Exchanger" "parts" "LReelChange$Table;" ∈ wsL_law0 := mL6 _ (List.mem_of_getElem? (i := 11) rfl)
theorem mw156 : Cond.fieldLink RX1 23 "ReelChange$Exchanger" "surplus" "[J" ∈ wsL_law0 := mL6 _ (List.mem_of_getElem? (i := 12) rfl)
theorem mw157 : Cond.methodLink RX1 13 yX8_init ∈ wsL_law0 := mL6 _ (List.mem_of_getElem? (i := 13) rfl)
theorem mw158 : Cond.instanceMethod yX2_init ∈ wsL_law0 := mL6 _ (List.mem_of_getElem? (i := 14) rfl)
theorem mw159 : Cond.code yX2_init cX2_init 1 none ∈ wsL_law0 := mL6 _ (List.mem_of_getElem? (i := 15) rfl)
theorem mw160 : Cond.methodLink RX2 1 objectInit ∈ wsL_law0 := mL6 _ (List.mem_of_getElem? (i := 16) rfl)
theorem mw161 : Cond.fieldLink RX2 7 "ReelChange$Fraction" "upper" "J" ∈ wsL_law0 := mL6 _ (List.mem_of_getElem? (i := 17) rfl)
theorem mw162 : Cond.fieldLink RX2 13 "ReelChange$Fraction" "lower" "J" ∈ wsL_law0 := mL6 _ (List.mem_of_getElem? (i := 18) rfl)
theorem mw163 : Cond.methodLink RL 18 yX11_init ∈ wsL_law0 := mL6 _ (List.mem_of_getElem? (i := 19) rfl)
theorem mw164 : Cond.instanceMethod yX11_init ∈ wsL_law0 := mL6 _ (List.mem_of_getElem? (i := 20) rfl)
theorem mw165 : Cond.code yX11_init cX11_init 1 none ∈ wsL_law0 := mL6 _ (List.mem_of_getElem? (i := 21) rfl)
theorem mw166 : Cond.methodLink RX11 1 objectInit ∈ wsL_law0 := mL6 _ (List.mem_of_getElem? (i := 22) rfl)
theorem mw167 : Cond.fieldLink RX11 7 "ReelChangeModel" "tape" "[I" ∈ wsL_law0 := mL6 _ (List.mem_of_getElem? (i := 23) rfl)
theorem mw168 : Cond.fieldLink RX11 13 "ReelChangeModel" "place" "I" ∈ wsL_law0 := mL7 _ (List.mem_of_getElem? (i := 0) rfl)
theorem mw169 : Cond.fieldLink RX11 17 "ReelChangeModel" "letters" "[I" ∈ wsL_law0 := mL7 _ (List.mem_of_getElem? (i := 1) rfl)
theorem mw170 : Cond.fieldLink RX11 20 "ReelChangeModel" "\x72" "[I" ∈ wsL_law0 := mL7 _ (List.mem_of_getElem? (i := 2) rfl)
theorem mw171 : Cond.fieldLink RX11 23 "ReelChangeModel" "fresh" "[I" ∈ wsL_law0 := mL7 _ (List.mem_of_getElem? (i := 3) rfl)
theorem mw172 : Cond.fieldLink RX11 26 "ReelChangeModel" "st" "[I" ∈ wsL_law0 := mL7 _ (List.mem_of_getElem? (i := 4) rfl)
theorem mw173 : Cond.fieldLink RX11 29 "ReelChangeModel" "undone" "[I" ∈ wsL_law0 := mL7 _ (List.mem_of_getElem? (i := 5) rfl)
theorem mw174 : Cond.fieldLink RX11 32 "ReelChangeModel" "kept" "[I" ∈ wsL_law0 := mL7 _ (List.mem_of_getElem? (i := 6) rfl)
theorem mw175 : Cond.fieldLink RX11 35 "ReelChangeModel" "from" "[I" ∈ wsL_law0 := mL7 _ (List.mem_of_getElem? (i := 7) rfl)
theorem mw176 : Cond.fieldLink RX11 38 "ReelChangeModel" "begin" "[I" ∈ wsL_law0 := mL7 _ (List.mem_of_getElem? (i := 8) rfl)
theorem mw177 : Cond.fieldLink RX11 41 "ReelChangeModel" "motor" "[I" ∈ wsL_law0 := mL7 _ (List.mem_of_getElem? (i := 9) rfl)
theorem mw178 : Cond.fieldLink RX11 44 "ReelChangeModel" "change" "[I" ∈ wsL_law0 := mL7 _ (List.mem_of_getElem? (i := 10) rfl)
theorem mw179 : Cond.fieldLink RX11 47 "ReelChangeModel" "startFrame" "[I" ∈ wsL_law0 := mL7 _ (List.mem_of_getElem? (i := 11) rfl)
theorem mw180 : Cond.fieldLink RX11 50 "ReelChangeModel" "changeFrame" "[I" ∈ wsL_law0 := mL7 _ (List.mem_of_getElem? (i := 12) rfl)
theorem mw181 : Cond.fieldLink RX11 53 "ReelChangeModel" "lostAt" "[I" ∈ wsL_law0 := mL7 _ (List.mem_of_getElem? (i := 13) rfl)
theorem mw182 : Cond.fieldLink RX11 56 "ReelChangeModel" "blackAt" "[I" ∈ wsL_law0 := mL7 _ (List.mem_of_getElem? (i := 14) rfl)
theorem mw183 : Cond.fieldLink RX11 59 "ReelChangeModel" "slips" "[I" ∈ wsL_law0 := mL7 _ (List.mem_of_getElem? (i := 15) rfl)
theorem mw184 : Cond.fieldLink RX11 62 "ReelChangeModel" "leftArc" "[I" ∈ wsL_law0 := mL7 _ (List.mem_of_getElem? (i := 16) rfl)
theorem mw185 : Cond.fieldLink RX11 65 "ReelChangeModel" "died" "[I" ∈ wsL_law0 := mL7 _ (List.mem_of_getElem? (i := 17) rfl)
theorem mw186 : Cond.fieldLink RX11 68 "ReelChangeModel" "arcs" "[I" ∈ wsL_law0 := mL7 _ (List.mem_of_getElem? (i := 18) rfl)
theorem mw187 : Cond.fieldLink RX11 71 "ReelChangeModel" "there" "[I" ∈ wsL_law0 := mL7 _ (List.mem_of_getElem? (i := 19) rfl)
theorem mw188 : Cond.fieldLink RX11 74 "ReelChangeModel" "backAt" "[I" ∈ wsL_law0 := mL7 _ (List.mem_of_getElem? (i := 20) rfl)
theorem mw189 : Cond.fieldLink RX11 77 "ReelChangeModel" "sorted" "[I" ∈ wsL_law0 := mL7 _ (List.mem_of_getElem? (i := 21) rfl)
theorem mw190 : Cond.fieldLink RX11 80 "ReelChangeModel" "parts" "[I" ∈ wsL_law0 := mL7 _ (List.mem_of_getElem? (i := 22) rfl)
theorem mw191 : Cond.methodLink RL 19 yX10_feed ∈ wsL_law0 := mL7 _ (List.mem_of_getElem? (i := 23) rfl)
theorem mw192 : Cond.instanceMethod yX10_feed ∈ wsL_law0 := mL8 _ (List.mem_of_getElem? (i := 0) rfl)
theorem mw193 : Cond.selects RX10 yX10_feed yX10_feed ∈ wsL_law0 := mL8 _ (List.mem_of_getElem? (i := 1) rfl)
theorem mw194 : Cond.code yX10_feed cX10_feed 6 (some .int) ∈ wsL_law0 := mL8 _ (List.mem_of_getElem? (i := 2) rfl)
theorem mw195 : Cond.fieldLink RX10 76 "ReelChange$Text" "taped" "I" ∈ wsL_law0 := mL8 _ (List.mem_of_getElem? (i := 3) rfl)
theorem mw196 : Cond.methodLink RX10 79 yX9_write ∈ wsL_law0 := mL8 _ (List.mem_of_getElem? (i := 4) rfl)
theorem mw197 : Cond.instanceMethod yX9_write ∈ wsL_law0 := mL8 _ (List.mem_of_getElem? (i := 5) rfl)
theorem mw198 : Cond.selects RX9 yX9_write yX9_write ∈ wsL_law0 := mL8 _ (List.mem_of_getElem? (i := 6) rfl)
theorem mw199 : Cond.code yX9_write cX9_write 3 none ∈ wsL_law0 := mL8 _ (List.mem_of_getElem? (i := 7) rfl)
theorem mw200 : Cond.methodLink RL 23 yX11_feed ∈ wsL_law0 := mL8 _ (List.mem_of_getElem? (i := 8) rfl)
theorem mw201 : Cond.instanceMethod yX11_feed ∈ wsL_law0 := mL8 _ (List.mem_of_getElem? (i := 9) rfl)
theorem mw202 : Cond.selects RX11 yX11_feed yX11_feed ∈ wsL_law0 := mL8 _ (List.mem_of_getElem? (i := 10) rfl)
theorem mw203 : Cond.code yX11_feed cX11_feed 8 (some .int) ∈ wsL_law0 := mL8 _ (List.mem_of_getElem? (i := 11) rfl)
theorem mw204 : Cond.fieldLink RX11 83 "ReelChangeModel" "thrown" "I" ∈ wsL_law0 := mL8 _ (List.mem_of_getElem? (i := 12) rfl)
theorem mw205 : Cond.fieldLink RX11 89 "ReelChangeModel" "taped" "I" ∈ wsL_law0 := mL8 _ (List.mem_of_getElem? (i := 13) rfl)
theorem mw206 : Cond.methodLink RL 24 yX10_house ∈ wsL_law0 := mL8 _ (List.mem_of_getElem? (i := 14) rfl)
theorem mw207 : Cond.instanceMethod yX10_house ∈ wsL_law0 := mL8 _ (List.mem_of_getElem? (i := 15) rfl)
theorem mw208 : Cond.selects RX10 yX10_house yX10_house ∈ wsL_law0 := mL8 _ (List.mem_of_getElem? (i := 16) rfl)
theorem mw209 : Cond.code yX10_house cX10_house 2 (some .int) ∈ wsL_law0 := mL8 _ (List.mem_of_getElem? (i := 17) rfl)
theorem mw210 : Cond.fieldLink RX10 90 "ReelChange$Text" "faultNumber" "I" ∈ wsL_law0 := mL8 _ (List.mem_of_getElem? (i := 18) rfl)
theorem mw211 : Cond.fieldLink RX10 93 "ReelChange$Text" "house" "LReelChange$House;" ∈ wsL_law0 := mL8 _ (List.mem_of_getElem? (i := 19) rfl)
theorem mw212 : Cond.fieldLink RX10 100 "ReelChange$House" "atFirst" "LReelChange$State;" ∈ wsL_law0 := mL8 _ (List.mem_of_getElem? (i := 20) rfl)
theorem mw213 : Cond.fieldLink RX10 109 "ReelChange$State" "places" "LReelChange$Table;" ∈ wsL_law0 := mL8 _ (List.mem_of_getElem? (i := 21) rfl)
theorem mw214 : Cond.fieldLink RX10 113 "ReelChange$Table" "count" "I" ∈ wsL_law0 := mL8 _ (List.mem_of_getElem? (i := 22) rfl)
theorem mw215 : Cond.methodLink RX10 83 yX10_refuse ∈ wsL_law0 := mL8 _ (List.mem_of_getElem? (i := 23) rfl)
theorem mw216 : Cond.instanceMethod yX10_refuse ∈ wsL_law0 := mL9 _ (List.mem_of_getElem? (i := 0) rfl)
theorem mw217 : Cond.selects RX10 yX10_refuse yX10_refuse ∈ wsL_law0 := mL9 _ (List.mem_of_getElem? (i := 1) rfl)
theorem mw218 : Cond.code yX10_refuse cX10_refuse 2 (some .int) ∈ wsL_law0 := mL9 _ (List.mem_of_getElem? (i := 2) rfl)
theorem mw219 : Cond.methodLink RX10 87 yX9_read ∈ wsL_law0 := mL9 _ (List.mem_of_getElem? (i := 3) rfl)
theorem mw220 : Cond.instanceMethod yX9_read ∈ wsL_law0 := mL9 _ (List.mem_of_getElem? (i := 4) rfl)
theorem mw221 : Cond.selects RX9 yX9_read yX9_read ∈ wsL_law0 := mL9 _ (List.mem_of_getElem? (i := 5) rfl)
theorem mw222 : Cond.code yX9_read cX9_read 4 none ∈ wsL_law0 := mL9 _ (List.mem_of_getElem? (i := 6) rfl)
theorem mw223 : Cond.methodLink RX9 70 yX3_clear ∈ wsL_law0 := mL9 _ (List.mem_of_getElem? (i := 7) rfl)
theorem mw224 : Cond.instanceMethod yX3_clear ∈ wsL_law0 := mL9 _ (List.mem_of_getElem? (i := 8) rfl)
theorem mw225 : Cond.selects RX3 yX3_clear yX3_clear ∈ wsL_law0 := mL9 _ (List.mem_of_getElem? (i := 9) rfl)
theorem mw226 : Cond.code yX3_clear cX3_clear 1 none ∈ wsL_law0 := mL9 _ (List.mem_of_getElem? (i := 10) rfl)
theorem mw227 : Cond.methodLink RX3 47 yX7_clear ∈ wsL_law0 := mL9 _ (List.mem_of_getElem? (i := 11) rfl)
theorem mw228 : Cond.instanceMethod yX7_clear ∈ wsL_law0 := mL9 _ (List.mem_of_getElem? (i := 12) rfl)
theorem mw229 : Cond.selects RX7 yX7_clear yX7_clear ∈ wsL_law0 := mL9 _ (List.mem_of_getElem? (i := 13) rfl)
theorem mw230 : Cond.code yX7_clear cX7_clear 1 none ∈ wsL_law0 := mL9 _ (List.mem_of_getElem? (i := 14) rfl)
theorem mw231 : Cond.methodLink RX7 36 yX8_clear ∈ wsL_law0 := mL9 _ (List.mem_of_getElem? (i := 15) rfl)
theorem mw232 : Cond.instanceMethod yX8_clear ∈ wsL_law0 := mL9 _ (List.mem_of_getElem? (i := 16) rfl)
theorem mw233 : Cond.selects RX8 yX8_clear yX8_clear ∈ wsL_law0 := mL9 _ (List.mem_of_getElem? (i := 17) rfl)
theorem mw234 : Cond.code yX8_clear cX8_clear 1 none ∈ wsL_law0 := mL9 _ (List.mem_of_getElem? (i := 18) rfl)
theorem mw235 : Cond.methodLink RX3 50 yX8_clear ∈ wsL_law0 := mL9 _ (List.mem_of_getElem? (i := 19) rfl)
theorem mw236 : Cond.methodLink RX9 73 yX8_clear ∈ wsL_law0 := mL9 _ (List.mem_of_getElem? (i := 20) rfl)
theorem mw237 : Cond.methodLink RX9 74 yX9_next ∈ wsL_law0 := mL9 _ (List.mem_of_getElem? (i := 21) rfl)
theorem mw238 : Cond.instanceMethod yX9_next ∈ wsL_law0 := mL9 _ (List.mem_of_getElem? (i := 22) rfl)
theorem mw239 : Cond.selects RX9 yX9_next yX9_next ∈ wsL_law0 := mL9 _ (List.mem_of_getElem? (i := 23) rfl)
theorem mw240 : Cond.code yX9_next cX9_next 1 none ∈ wsL_law0 := mL10 _ (List.mem_of_getElem? (i := 0) rfl)
theorem mw241 : Cond.constantLong RX9 301 (27) ∈ wsL_law0 := mL10 _ (List.mem_of_getElem? (i := 1) rfl)
theorem mw242 : Cond.methodLink RX9 298 yX9_kindAt ∈ wsL_law0 := mL10 _ (List.mem_of_getElem? (i := 2) rfl)
theorem mw243 : Cond.instanceMethod yX9_kindAt ∈ wsL_law0 := mL10 _ (List.mem_of_getElem? (i := 3) rfl)
theorem mw244 : Cond.selects RX9 yX9_kindAt yX9_kindAt ∈ wsL_law0 := mL10 _ (List.mem_of_getElem? (i := 4) rfl)
theorem mw245 : Cond.code yX9_kindAt cX9_kindAt 3 (some .int) ∈ wsL_law0 := mL10 _ (List.mem_of_getElem? (i := 5) rfl)
theorem mw246 : Cond.methodLink RX9 77 yX9_isLine ∈ wsL_law0 := mL10 _ (List.mem_of_getElem? (i := 6) rfl)
theorem mw247 : Cond.instanceMethod yX9_isLine ∈ wsL_law0 := mL10 _ (List.mem_of_getElem? (i := 7) rfl)
theorem mw248 : Cond.selects RX9 yX9_isLine yX9_isLine ∈ wsL_law0 := mL10 _ (List.mem_of_getElem? (i := 8) rfl)
theorem mw249 : Cond.code yX9_isLine cX9_isLine 1 (some .boolean) ∈ wsL_law0 := mL10 _ (List.mem_of_getElem? (i := 9) rfl)
theorem mw250 : Cond.fieldLink RX9 116 "ReelChange$House" "numbers" "LReelChange$Table;" ∈ wsL_law0 := mL10 _ (List.mem_of_getElem? (i := 10) rfl)
theorem mw251 : Cond.fieldLink RX9 97 "ReelChange$Table" "count" "I" ∈ wsL_law0 := mL10 _ (List.mem_of_getElem? (i := 11) rfl)
theorem mw252 : Cond.methodLink RX9 104 yX9_is ∈ wsL_law0 := mL10 _ (List.mem_of_getElem? (i := 12) rfl)
theorem mw253 : Cond.instanceMethod yX9_is ∈ wsL_law0 := mL10 _ (List.mem_of_getElem? (i := 13) rfl)
theorem mw254 : Cond.selects RX9 yX9_is yX9_is ∈ wsL_law0 := mL10 _ (List.mem_of_getElem? (i := 14) rfl)
theorem mw255 : Cond.code yX9_is cX9_is 3 (some .boolean) ∈ wsL_law0 := mL10 _ (List.mem_of_getElem? (i := 15) rfl)
theorem mw256 : Cond.methodLink RX9 289 yJ0_length_8abf5 ∈ wsL_law0 := mL10 _ (List.mem_of_getElem? (i := 16) rfl)
theorem mw257 : Cond.instanceMethod yJ0_length_8abf5 ∈ wsL_law0 := mL10 _ (List.mem_of_getElem? (i := 17) rfl)
theorem mw258 : Cond.selects RJ0 yJ0_length_8abf5 yJ0_length_8abf5 ∈ wsL_law0 := mL10 _ (List.mem_of_getElem? (i := 18) rfl)
theorem mw259 : Cond.initialized RJ0 ∈ wsL_law0 := mL10 _ (List.mem_of_getElem? (i := 19) rfl)
theorem mw260 : Cond.code yJ0_length_8abf5 cJ0_length_8abf5 1 (some .int) ∈ wsL_law0 := mL10 _ (List.mem_of_getElem? (i := 20) rfl)
theorem mw261 : Cond.fieldLink RJ0 9 "java/lang/String" "value" "[B" ∈ wsL_law0 := mL10 _ (List.mem_of_getElem? (i := 21) rfl)
theorem mw262 : Cond.methodLink RJ0 335 yJ0_coder_7d493 ∈ wsL_law0 := mL10 _ (List.mem_of_getElem? (i := 22) rfl)
theorem mw263 : Cond.instanceMethod yJ0_coder_7d493 ∈ wsL_law0 := mL10 _ (List.mem_of_getElem? (i := 23) rfl)
theorem mw264 : Cond.selects RJ0 yJ0_coder_7d493 yJ0_coder_7d493 ∈ wsL_law0 := mL11 _ (List.mem_of_getElem? (i := 0) rfl)
theorem mw265 : Cond.code yJ0_coder_7d493 cJ0_coder_7d493 1 (some .byte) ∈ wsL_law0 := mL11 _ (List.mem_of_getElem? (i := 1) rfl)
theorem mw266 : Cond.fieldLink RJ0 38 "java/lang/String" "COMPACT_STRINGS" "Z" ∈ wsL_law0 := mL11 _ (List.mem_of_getElem? (i := 2) rfl)
theorem mw267 : Cond.fieldLink RJ0 15 "java/lang/String" "coder" "B" ∈ wsL_law0 := mL11 _ (List.mem_of_getElem? (i := 3) rfl)
theorem mw268 : Cond.methodLink RX9 294 yJ0_charAt_5068e ∈ wsL_law0 := mL11 _ (List.mem_of_getElem? (i := 4) rfl)
theorem mw269 : Cond.instanceMethod yJ0_charAt_5068e ∈ wsL_law0 := mL11 _ (List.mem_of_getElem? (i := 5) rfl)
theorem mw270 : Cond.selects RJ0 yJ0_charAt_5068e yJ0_charAt_5068e ∈ wsL_law0 := mL11 _ (List.mem_of_getElem? (i := 6) rfl)
theorem mw271 : Cond.code yJ0_charAt_5068e cJ0_charAt_5068e 2 (some .char) ∈ wsL_law0 := mL11 _ (List.mem_of_getElem? (i := 7) rfl)
theorem mw272 : Cond.methodLink RJ0 492 yJ0_isLatin1_aae02 ∈ wsL_law0 := mL11 _ (List.mem_of_getElem? (i := 8) rfl)
theorem mw273 : Cond.instanceMethod yJ0_isLatin1_aae02 ∈ wsL_law0 := mL11 _ (List.mem_of_getElem? (i := 9) rfl)
theorem mw274 : Cond.selects RJ0 yJ0_isLatin1_aae02 yJ0_isLatin1_aae02 ∈ wsL_law0 := mL11 _ (List.mem_of_getElem? (i := 10) rfl)
theorem mw275 : Cond.code yJ0_isLatin1_aae02 cJ0_isLatin1_aae02 1 (some .boolean) ∈ wsL_law0 := mL11 _ (List.mem_of_getElem? (i := 11) rfl)
theorem mw276 : Cond.methodLink RJ0 495 yJ1_charAt_3b067 ∈ wsL_law0 := mL11 _ (List.mem_of_getElem? (i := 12) rfl)
theorem mw277 : Cond.static yJ1_charAt_3b067 ∈ wsL_law0 := mL11 _ (List.mem_of_getElem? (i := 13) rfl)
theorem mw278 : Cond.initialized RJ1 ∈ wsL_law0 := mL11 _ (List.mem_of_getElem? (i := 14) rfl)
theorem mw279 : Cond.code yJ1_charAt_3b067 cJ1_charAt_3b067 2 (some .char) ∈ wsL_law0 := mL11 _ (List.mem_of_getElem? (i := 15) rfl)
theorem mw280 : Cond.methodLink RJ1 9 yJ0_checkIndex_df160 ∈ wsL_law0 := mL11 _ (List.mem_of_getElem? (i := 16) rfl)
theorem mw281 : Cond.static yJ0_checkIndex_df160 ∈ wsL_law0 := mL11 _ (List.mem_of_getElem? (i := 17) rfl)
theorem mw282 : Cond.code yJ0_checkIndex_df160 cJ0_checkIndex_df160 2 none ∈ wsL_law0 := mL11 _ (List.mem_of_getElem? (i := 18) rfl)
theorem mw283 : Cond.fieldLink RJ0 1053 "jdk/internal/util/Preconditions" "SIOOBE_FORMATTER" "Ljava/util/function/BiFunction;" ∈ wsL_law0 := mL11 _ (List.mem_of_getElem? (i := 19) rfl)
theorem mw284 : Cond.methodLink RJ0 1059 yJ3_checkIndex_8e157 ∈ wsL_law0 := mL11 _ (List.mem_of_getElem? (i := 20) rfl)
theorem mw285 : Cond.static yJ3_checkIndex_8e157 ∈ wsL_law0 := mL11 _ (List.mem_of_getElem? (i := 21) rfl)
theorem mw286 : Cond.initialized RJ3 ∈ wsL_law0 := mL11 _ (List.mem_of_getElem? (i := 22) rfl)
theorem mw287 : Cond.code yJ3_checkIndex_8e157 cJ3_checkIndex_8e157 3 (some .int) ∈ wsL_law0 := mL11 _ (List.mem_of_getElem? (i := 23) rfl)
theorem mw288 : Cond.methodLink RJ0 498 yJ2_charAt_3b067 ∈ wsL_law0 := mL12 _ (List.mem_of_getElem? (i := 0) rfl)
theorem mw289 : Cond.static yJ2_charAt_3b067 ∈ wsL_law0 := mL12 _ (List.mem_of_getElem? (i := 1) rfl)
theorem mw290 : Cond.initialized RJ2 ∈ wsL_law0 := mL12 _ (List.mem_of_getElem? (i := 2) rfl)
theorem mw291 : Cond.code yJ2_charAt_3b067 cJ2_charAt_3b067 2 (some .char) ∈ wsL_law0 := mL12 _ (List.mem_of_getElem? (i := 3) rfl)
theorem mw292 : Cond.methodLink RJ2 67 yJ2_checkIndex_2214a ∈ wsL_law0 := mL12 _ (List.mem_of_getElem? (i := 4) rfl)
theorem mw293 : Cond.static yJ2_checkIndex_2214a ∈ wsL_law0 := mL12 _ (List.mem_of_getElem? (i := 5) rfl)
theorem mw294 : Cond.code yJ2_checkIndex_2214a cJ2_checkIndex_2214a 2 none ∈ wsL_law0 := mL12 _ (List.mem_of_getElem? (i := 6) rfl)
theorem mw295 : Cond.methodLink RJ2 48 yJ2_length_9d52b ∈ wsL_law0 := mL12 _ (List.mem_of_getElem? (i := 7) rfl)
theorem mw296 : Cond.static yJ2_length_9d52b ∈ wsL_law0 := mL12 _ (List.mem_of_getElem? (i := 8) rfl)
theorem mw297 : Cond.code yJ2_length_9d52b cJ2_length_9d52b 1 (some .int) ∈ wsL_law0 := mL12 _ (List.mem_of_getElem? (i := 9) rfl)
theorem mw298 : Cond.methodLink RJ2 414 yJ0_checkIndex_df160 ∈ wsL_law0 := mL12 _ (List.mem_of_getElem? (i := 10) rfl)
theorem mw299 : Cond.methodLink RJ2 71 yJ2_getChar_3b067 ∈ wsL_law0 := mL12 _ (List.mem_of_getElem? (i := 11) rfl)
theorem mw300 : Cond.static yJ2_getChar_3b067 ∈ wsL_law0 := mL12 _ (List.mem_of_getElem? (i := 12) rfl)
theorem mw301 : Cond.code yJ2_getChar_3b067 cJ2_getChar_3b067 2 (some .char) ∈ wsL_law0 := mL12 _ (List.mem_of_getElem? (i := 13) rfl)
theorem mw302 : Cond.fieldLink RJ2 44 "java/lang/StringUTF16" "$assertionsDisabled" "Z" ∈ wsL_law0 := mL12 _ (List.mem_of_getElem? (i := 14) rfl)
theorem mw303 : Cond.fieldLink RJ2 59 "java/lang/StringUTF16" "HI_BYTE_SHIFT" "I" ∈ wsL_law0 := mL12 _ (List.mem_of_getElem? (i := 15) rfl)
theorem mw304 : Cond.fieldLink RJ2 63 "java/lang/StringUTF16" "LO_BYTE_SHIFT" "I" ∈ wsL_law0 := mL12 _ (List.mem_of_getElem? (i := 16) rfl)
theorem mw305 : Cond.methodLink RX9 108 yX9_isHouseLine ∈ wsL_law0 := mL12 _ (List.mem_of_getElem? (i := 17) rfl)
theorem mw306 : Cond.instanceMethod yX9_isHouseLine ∈ wsL_law0 := mL12 _ (List.mem_of_getElem? (i := 18) rfl)
theorem mw307 : Cond.selects RX9 yX9_isHouseLine yX9_isHouseLine ∈ wsL_law0 := mL12 _ (List.mem_of_getElem? (i := 19) rfl)
theorem mw308 : Cond.code yX9_isHouseLine cX9_isHouseLine 1 (some .boolean) ∈ wsL_law0 := mL12 _ (List.mem_of_getElem? (i := 20) rfl)
theorem mw309 : Cond.methodLink RX9 84 yX9_refuseAt ∈ wsL_law0 := mL12 _ (List.mem_of_getElem? (i := 21) rfl)
theorem mw310 : Cond.instanceMethod yX9_refuseAt ∈ wsL_law0 := mL12 _ (List.mem_of_getElem? (i := 22) rfl)
theorem mw311 : Cond.selects RX9 yX9_refuseAt yX9_refuseAt ∈ wsL_law0 := mL12 _ (List.mem_of_getElem? (i := 23) rfl)
theorem mw312 : Cond.code yX9_refuseAt cX9_refuseAt 3 (some .boolean) ∈ wsL_law0 := mL13 _ (List.mem_of_getElem? (i := 0) rfl)
theorem mw313 : Cond.methodLink RX9 169 yX9_isNumber ∈ wsL_law0 := mL13 _ (List.mem_of_getElem? (i := 1) rfl)
theorem mw314 : Cond.instanceMethod yX9_isNumber ∈ wsL_law0 := mL13 _ (List.mem_of_getElem? (i := 2) rfl)
theorem mw315 : Cond.selects RX9 yX9_isNumber yX9_isNumber ∈ wsL_law0 := mL13 _ (List.mem_of_getElem? (i := 3) rfl)
theorem mw316 : Cond.code yX9_isNumber cX9_isNumber 5 (some .boolean) ∈ wsL_law0 := mL13 _ (List.mem_of_getElem? (i := 4) rfl)
theorem mw317 : Cond.methodLink RX9 183 yX9_isLabel ∈ wsL_law0 := mL13 _ (List.mem_of_getElem? (i := 5) rfl)
theorem mw318 : Cond.instanceMethod yX9_isLabel ∈ wsL_law0 := mL13 _ (List.mem_of_getElem? (i := 6) rfl)
theorem mw319 : Cond.selects RX9 yX9_isLabel yX9_isLabel ∈ wsL_law0 := mL13 _ (List.mem_of_getElem? (i := 7) rfl)
theorem mw320 : Cond.code yX9_isLabel cX9_isLabel 2 (some .boolean) ∈ wsL_law0 := mL13 _ (List.mem_of_getElem? (i := 8) rfl)
theorem mw321 : Cond.methodLink RX9 186 yX9_isWhole ∈ wsL_law0 := mL13 _ (List.mem_of_getElem? (i := 9) rfl)
theorem mw322 : Cond.instanceMethod yX9_isWhole ∈ wsL_law0 := mL13 _ (List.mem_of_getElem? (i := 10) rfl)
theorem mw323 : Cond.selects RX9 yX9_isWhole yX9_isWhole ∈ wsL_law0 := mL13 _ (List.mem_of_getElem? (i := 11) rfl)
theorem mw324 : Cond.code yX9_isWhole cX9_isWhole 3 (some .boolean) ∈ wsL_law0 := mL13 _ (List.mem_of_getElem? (i := 12) rfl)
theorem mw325 : Cond.methodLink RX9 189 yX8_put ∈ wsL_law0 := mL13 _ (List.mem_of_getElem? (i := 13) rfl)
theorem mw326 : Cond.instanceMethod yX8_put ∈ wsL_law0 := mL13 _ (List.mem_of_getElem? (i := 14) rfl)
theorem mw327 : Cond.selects RX8 yX8_put yX8_put ∈ wsL_law0 := mL13 _ (List.mem_of_getElem? (i := 15) rfl)
theorem mw328 : Cond.code yX8_put cX8_put 4 none ∈ wsL_law0 := mL13 _ (List.mem_of_getElem? (i := 16) rfl)
theorem mw329 : Cond.methodLink RX9 113 yX9_isReserved ∈ wsL_law0 := mL13 _ (List.mem_of_getElem? (i := 17) rfl)
theorem mw330 : Cond.instanceMethod yX9_isReserved ∈ wsL_law0 := mL13 _ (List.mem_of_getElem? (i := 18) rfl)
theorem mw331 : Cond.selects RX9 yX9_isReserved yX9_isReserved ∈ wsL_law0 := mL13 _ (List.mem_of_getElem? (i := 19) rfl)
theorem mw332 : Cond.code yX9_isReserved cX9_isReserved 1 (some .boolean) ∈ wsL_law0 := mL13 _ (List.mem_of_getElem? (i := 20) rfl)
theorem mw333 : Cond.methodLink RX9 121 yX9_isReelLine ∈ wsL_law0 := mL13 _ (List.mem_of_getElem? (i := 21) rfl)
theorem mw334 : Cond.instanceMethod yX9_isReelLine ∈ wsL_law0 := mL13 _ (List.mem_of_getElem? (i := 22) rfl)
theorem mw335 : Cond.selects RX9 yX9_isReelLine yX9_isReelLine ∈ wsL_law0 := mL13 _ (List.mem_of_getElem? (i := 23) rfl)
theorem mw336 : Cond.code yX9_isReelLine cX9_isReelLine 4 (some .boolean) ∈ wsL_law0 := mL14 _ (List.mem_of_getElem? (i := 0) rfl)
theorem mw337 : Cond.fieldLink RX9 88 "ReelChange$House" "atFirst" "LReelChange$State;" ∈ wsL_law0 := mL14 _ (List.mem_of_getElem? (i := 1) rfl)
theorem mw338 : Cond.fieldLink RX9 193 "ReelChange$State" "reels" "LReelChange$Table;" ∈ wsL_law0 := mL14 _ (List.mem_of_getElem? (i := 2) rfl)
theorem mw339 : Cond.methodLink RX9 196 yX9_hasRoom ∈ wsL_law0 := mL14 _ (List.mem_of_getElem? (i := 3) rfl)
theorem mw340 : Cond.instanceMethod yX9_hasRoom ∈ wsL_law0 := mL14 _ (List.mem_of_getElem? (i := 4) rfl)
theorem mw341 : Cond.selects RX9 yX9_hasRoom yX9_hasRoom ∈ wsL_law0 := mL14 _ (List.mem_of_getElem? (i := 5) rfl)
theorem mw342 : Cond.code yX9_hasRoom cX9_hasRoom 2 (some .boolean) ∈ wsL_law0 := mL14 _ (List.mem_of_getElem? (i := 6) rfl)
theorem mw343 : Cond.methodLink RX9 262 yX8_isFull ∈ wsL_law0 := mL14 _ (List.mem_of_getElem? (i := 7) rfl)
theorem mw344 : Cond.instanceMethod yX8_isFull ∈ wsL_law0 := mL14 _ (List.mem_of_getElem? (i := 8) rfl)
theorem mw345 : Cond.selects RX8 yX8_isFull yX8_isFull ∈ wsL_law0 := mL14 _ (List.mem_of_getElem? (i := 9) rfl)
theorem mw346 : Cond.code yX8_isFull cX8_isFull 1 (some .boolean) ∈ wsL_law0 := mL14 _ (List.mem_of_getElem? (i := 10) rfl)
theorem mw347 : Cond.methodLink RX9 200 yX9_isNewName ∈ wsL_law0 := mL14 _ (List.mem_of_getElem? (i := 11) rfl)
theorem mw348 : Cond.instanceMethod yX9_isNewName ∈ wsL_law0 := mL14 _ (List.mem_of_getElem? (i := 12) rfl)
theorem mw349 : Cond.selects RX9 yX9_isNewName yX9_isNewName ∈ wsL_law0 := mL14 _ (List.mem_of_getElem? (i := 13) rfl)
theorem mw350 : Cond.code yX9_isNewName cX9_isNewName 4 (some .boolean) ∈ wsL_law0 := mL14 _ (List.mem_of_getElem? (i := 14) rfl)
theorem mw351 : Cond.methodLink RX9 284 yX9_findName ∈ wsL_law0 := mL14 _ (List.mem_of_getElem? (i := 15) rfl)
theorem mw352 : Cond.instanceMethod yX9_findName ∈ wsL_law0 := mL14 _ (List.mem_of_getElem? (i := 16) rfl)
theorem mw353 : Cond.selects RX9 yX9_findName yX9_findName ∈ wsL_law0 := mL14 _ (List.mem_of_getElem? (i := 17) rfl)
theorem mw354 : Cond.code yX9_findName cX9_findName 2 (some .int) ∈ wsL_law0 := mL14 _ (List.mem_of_getElem? (i := 18) rfl)
theorem mw355 : Cond.methodLink RX9 209 yX8_add ∈ wsL_law0 := mL14 _ (List.mem_of_getElem? (i := 19) rfl)
theorem mw356 : Cond.instanceMethod yX8_add ∈ wsL_law0 := mL14 _ (List.mem_of_getElem? (i := 20) rfl)
theorem mw357 : Cond.selects RX8 yX8_add yX8_add ∈ wsL_law0 := mL14 _ (List.mem_of_getElem? (i := 21) rfl)
theorem mw358 : Cond.code yX8_add cX8_add 4 none ∈ wsL_law0 := mL14 _ (List.mem_of_getElem? (i := 22) rfl)
theorem mw359 : Cond.methodLink RX8 29 yX8_isFull ∈ wsL_law0 := mL14 _ (List.mem_of_getElem? (i := 23) rfl)
theorem mw360 : Cond.methodLink RX8 33 yX8_put ∈ wsL_law0 := mL15 _ (List.mem_of_getElem? (i := 0) rfl)
theorem mw361 : Cond.methodLink RX9 126 yX9_isTownLine ∈ wsL_law0 := mL15 _ (List.mem_of_getElem? (i := 1) rfl)
theorem mw362 : Cond.instanceMethod yX9_isTownLine ∈ wsL_law0 := mL15 _ (List.mem_of_getElem? (i := 2) rfl)
theorem mw363 : Cond.selects RX9 yX9_isTownLine yX9_isTownLine ∈ wsL_law0 := mL15 _ (List.mem_of_getElem? (i := 3) rfl)
theorem mw364 : Cond.code yX9_isTownLine cX9_isTownLine 1 (some .boolean) ∈ wsL_law0 := mL15 _ (List.mem_of_getElem? (i := 4) rfl)
theorem mw365 : Cond.fieldLink RX9 212 "ReelChange$House" "towns" "LReelChange$Table;" ∈ wsL_law0 := mL15 _ (List.mem_of_getElem? (i := 5) rfl)
theorem mw366 : Cond.methodLink RX9 131 yX9_isMarkLine ∈ wsL_law0 := mL15 _ (List.mem_of_getElem? (i := 6) rfl)
theorem mw367 : Cond.instanceMethod yX9_isMarkLine ∈ wsL_law0 := mL15 _ (List.mem_of_getElem? (i := 7) rfl)
theorem mw368 : Cond.selects RX9 yX9_isMarkLine yX9_isMarkLine ∈ wsL_law0 := mL15 _ (List.mem_of_getElem? (i := 8) rfl)
theorem mw369 : Cond.code yX9_isMarkLine cX9_isMarkLine 4 (some .boolean) ∈ wsL_law0 := mL15 _ (List.mem_of_getElem? (i := 9) rfl)
theorem mw370 : Cond.fieldLink RX9 217 "ReelChange$State" "marks" "LReelChange$Table;" ∈ wsL_law0 := mL15 _ (List.mem_of_getElem? (i := 10) rfl)
theorem mw371 : Cond.methodLink RX9 220 yX9_isOldName ∈ wsL_law0 := mL15 _ (List.mem_of_getElem? (i := 11) rfl)
theorem mw372 : Cond.instanceMethod yX9_isOldName ∈ wsL_law0 := mL15 _ (List.mem_of_getElem? (i := 12) rfl)
theorem mw373 : Cond.selects RX9 yX9_isOldName yX9_isOldName ∈ wsL_law0 := mL15 _ (List.mem_of_getElem? (i := 13) rfl)
theorem mw374 : Cond.code yX9_isOldName cX9_isOldName 3 (some .boolean) ∈ wsL_law0 := mL15 _ (List.mem_of_getElem? (i := 14) rfl)
theorem mw375 : Cond.methodLink RX9 240 yX8_at ∈ wsL_law0 := mL15 _ (List.mem_of_getElem? (i := 15) rfl)
theorem mw376 : Cond.instanceMethod yX8_at ∈ wsL_law0 := mL15 _ (List.mem_of_getElem? (i := 16) rfl)
theorem mw377 : Cond.selects RX8 yX8_at yX8_at ∈ wsL_law0 := mL15 _ (List.mem_of_getElem? (i := 17) rfl)
theorem mw378 : Cond.code yX8_at cX8_at 3 (some .int) ∈ wsL_law0 := mL15 _ (List.mem_of_getElem? (i := 18) rfl)
theorem mw379 : Cond.methodLink RX9 224 yX9_lastFrame ∈ wsL_law0 := mL15 _ (List.mem_of_getElem? (i := 19) rfl)
theorem mw380 : Cond.instanceMethod yX9_lastFrame ∈ wsL_law0 := mL15 _ (List.mem_of_getElem? (i := 20) rfl)
theorem mw381 : Cond.selects RX9 yX9_lastFrame yX9_lastFrame ∈ wsL_law0 := mL15 _ (List.mem_of_getElem? (i := 21) rfl)
theorem mw382 : Cond.code yX9_lastFrame cX9_lastFrame 2 (some .int) ∈ wsL_law0 := mL15 _ (List.mem_of_getElem? (i := 22) rfl)
theorem mw383 : Cond.methodLink RX9 228 yX7_markBy ∈ wsL_law0 := mL15 _ (List.mem_of_getElem? (i := 23) rfl)
theorem mw384 : Cond.instanceMethod yX7_markBy ∈ wsL_law0 := mL16 _ (List.mem_of_getElem? (i := 0) rfl)
theorem mw385 : Cond.selects RX7 yX7_markBy yX7_markBy ∈ wsL_law0 := mL16 _ (List.mem_of_getElem? (i := 1) rfl)
theorem mw386 : Cond.code yX7_markBy cX7_markBy 4 (some .int) ∈ wsL_law0 := mL16 _ (List.mem_of_getElem? (i := 2) rfl)
theorem mw387 : Cond.fieldLink RX7 51 "ReelChange$Table" "count" "I" ∈ wsL_law0 := mL16 _ (List.mem_of_getElem? (i := 3) rfl)
theorem mw388 : Cond.methodLink RX7 43 yX8_at ∈ wsL_law0 := mL16 _ (List.mem_of_getElem? (i := 4) rfl)
theorem mw389 : Cond.methodLink RX9 136 yX9_isJoinLine ∈ wsL_law0 := mL16 _ (List.mem_of_getElem? (i := 5) rfl)
theorem mw390 : Cond.instanceMethod yX9_isJoinLine ∈ wsL_law0 := mL16 _ (List.mem_of_getElem? (i := 6) rfl)
theorem mw391 : Cond.selects RX9 yX9_isJoinLine yX9_isJoinLine ∈ wsL_law0 := mL16 _ (List.mem_of_getElem? (i := 7) rfl)
theorem mw392 : Cond.code yX9_isJoinLine cX9_isJoinLine 2 (some .boolean) ∈ wsL_law0 := mL16 _ (List.mem_of_getElem? (i := 8) rfl)
theorem mw393 : Cond.fieldLink RX9 232 "ReelChange$House" "joins" "LReelChange$Table;" ∈ wsL_law0 := mL16 _ (List.mem_of_getElem? (i := 9) rfl)
theorem mw394 : Cond.methodLink RX9 141 yX9_isWeakLine ∈ wsL_law0 := mL16 _ (List.mem_of_getElem? (i := 10) rfl)
theorem mw395 : Cond.instanceMethod yX9_isWeakLine ∈ wsL_law0 := mL16 _ (List.mem_of_getElem? (i := 11) rfl)
theorem mw396 : Cond.selects RX9 yX9_isWeakLine yX9_isWeakLine ∈ wsL_law0 := mL16 _ (List.mem_of_getElem? (i := 12) rfl)
theorem mw397 : Cond.code yX9_isWeakLine cX9_isWeakLine 5 (some .boolean) ∈ wsL_law0 := mL16 _ (List.mem_of_getElem? (i := 13) rfl)
theorem mw398 : Cond.fieldLink RX9 237 "ReelChange$State" "weaks" "LReelChange$Table;" ∈ wsL_law0 := mL16 _ (List.mem_of_getElem? (i := 14) rfl)
theorem mw399 : Cond.methodLink RX9 146 yX9_isManLine ∈ wsL_law0 := mL16 _ (List.mem_of_getElem? (i := 15) rfl)
theorem mw400 : Cond.instanceMethod yX9_isManLine ∈ wsL_law0 := mL16 _ (List.mem_of_getElem? (i := 16) rfl)
theorem mw401 : Cond.selects RX9 yX9_isManLine yX9_isManLine ∈ wsL_law0 := mL16 _ (List.mem_of_getElem? (i := 17) rfl)
theorem mw402 : Cond.code yX9_isManLine cX9_isManLine 3 (some .boolean) ∈ wsL_law0 := mL16 _ (List.mem_of_getElem? (i := 18) rfl)
theorem mw403 : Cond.fieldLink RX9 100 "ReelChange$House" "men" "LReelChange$Table;" ∈ wsL_law0 := mL16 _ (List.mem_of_getElem? (i := 19) rfl)
theorem mw404 : Cond.methodLink RX9 245 yX9_kindOfMan ∈ wsL_law0 := mL16 _ (List.mem_of_getElem? (i := 20) rfl)
theorem mw405 : Cond.instanceMethod yX9_kindOfMan ∈ wsL_law0 := mL16 _ (List.mem_of_getElem? (i := 21) rfl)
theorem mw406 : Cond.selects RX9 yX9_kindOfMan yX9_kindOfMan ∈ wsL_law0 := mL16 _ (List.mem_of_getElem? (i := 22) rfl)
theorem mw407 : Cond.code yX9_kindOfMan cX9_kindOfMan 1 (some .int) ∈ wsL_law0 := mL16 _ (List.mem_of_getElem? (i := 23) rfl)
theorem mw408 : Cond.methodLink RX9 151 yX9_isShowsLine ∈ wsL_law0 := mL17 _ (List.mem_of_getElem? (i := 0) rfl)
theorem mw409 : Cond.instanceMethod yX9_isShowsLine ∈ wsL_law0 := mL17 _ (List.mem_of_getElem? (i := 1) rfl)
theorem mw410 : Cond.selects RX9 yX9_isShowsLine yX9_isShowsLine ∈ wsL_law0 := mL17 _ (List.mem_of_getElem? (i := 2) rfl)
theorem mw411 : Cond.code yX9_isShowsLine cX9_isShowsLine 4 (some .boolean) ∈ wsL_law0 := mL17 _ (List.mem_of_getElem? (i := 3) rfl)
theorem mw412 : Cond.fieldLink RX9 92 "ReelChange$State" "places" "LReelChange$Table;" ∈ wsL_law0 := mL17 _ (List.mem_of_getElem? (i := 4) rfl)
theorem mw413 : Cond.fieldLink RX9 259 "ReelChange$Table" "room" "I" ∈ wsL_law0 := mL17 _ (List.mem_of_getElem? (i := 5) rfl)
theorem mw414 : Cond.methodLink RX9 265 yX3_number ∈ wsL_law0 := mL17 _ (List.mem_of_getElem? (i := 6) rfl)
theorem mw415 : Cond.instanceMethod yX3_number ∈ wsL_law0 := mL17 _ (List.mem_of_getElem? (i := 7) rfl)
theorem mw416 : Cond.selects RX3 yX3_number yX3_number ∈ wsL_law0 := mL17 _ (List.mem_of_getElem? (i := 8) rfl)
theorem mw417 : Cond.code yX3_number cX3_number 2 (some .int) ∈ wsL_law0 := mL17 _ (List.mem_of_getElem? (i := 9) rfl)
theorem mw418 : Cond.methodLink RX3 43 yX8_at ∈ wsL_law0 := mL17 _ (List.mem_of_getElem? (i := 10) rfl)
theorem mw419 : Cond.methodLink RX9 156 yX9_isBoysLine ∈ wsL_law0 := mL17 _ (List.mem_of_getElem? (i := 11) rfl)
theorem mw420 : Cond.instanceMethod yX9_isBoysLine ∈ wsL_law0 := mL17 _ (List.mem_of_getElem? (i := 12) rfl)
theorem mw421 : Cond.selects RX9 yX9_isBoysLine yX9_isBoysLine ∈ wsL_law0 := mL17 _ (List.mem_of_getElem? (i := 13) rfl)
theorem mw422 : Cond.code yX9_isBoysLine cX9_isBoysLine 3 (some .boolean) ∈ wsL_law0 := mL17 _ (List.mem_of_getElem? (i := 14) rfl)
theorem mw423 : Cond.fieldLink RX9 268 "ReelChange$House" "boys" "LReelChange$Table;" ∈ wsL_law0 := mL17 _ (List.mem_of_getElem? (i := 15) rfl)
theorem mw424 : Cond.methodLink RX9 161 yX9_isSeenLine ∈ wsL_law0 := mL17 _ (List.mem_of_getElem? (i := 16) rfl)
theorem mw425 : Cond.instanceMethod yX9_isSeenLine ∈ wsL_law0 := mL17 _ (List.mem_of_getElem? (i := 17) rfl)
theorem mw426 : Cond.selects RX9 yX9_isSeenLine yX9_isSeenLine ∈ wsL_law0 := mL17 _ (List.mem_of_getElem? (i := 18) rfl)
theorem mw427 : Cond.code yX9_isSeenLine cX9_isSeenLine 4 (some .boolean) ∈ wsL_law0 := mL17 _ (List.mem_of_getElem? (i := 19) rfl)
theorem mw428 : Cond.fieldLink RX9 274 "ReelChange$House" "signs" "LReelChange$Table;" ∈ wsL_law0 := mL17 _ (List.mem_of_getElem? (i := 20) rfl)
theorem mw429 : Cond.methodLink RX9 164 yX9_isScratchLine ∈ wsL_law0 := mL17 _ (List.mem_of_getElem? (i := 21) rfl)
theorem mw430 : Cond.instanceMethod yX9_isScratchLine ∈ wsL_law0 := mL17 _ (List.mem_of_getElem? (i := 22) rfl)
theorem mw431 : Cond.selects RX9 yX9_isScratchLine yX9_isScratchLine ∈ wsL_law0 := mL17 _ (List.mem_of_getElem? (i := 23) rfl)
theorem mw432 : Cond.code yX9_isScratchLine cX9_isScratchLine 2 (some .boolean) ∈ wsL_law0 := mL18 _ (List.mem_of_getElem? (i := 0) rfl)
theorem mw433 : Cond.fieldLink RX9 281 "ReelChange$House" "scratches" "LReelChange$Table;" ∈ wsL_law0 := mL18 _ (List.mem_of_getElem? (i := 1) rfl)
theorem mw434 : Cond.methodLink RX9 81 yX9_isFollowed ∈ wsL_law0 := mL18 _ (List.mem_of_getElem? (i := 2) rfl)
theorem mw435 : Cond.instanceMethod yX9_isFollowed ∈ wsL_law0 := mL18 _ (List.mem_of_getElem? (i := 3) rfl)
theorem mw436 : Cond.selects RX9 yX9_isFollowed yX9_isFollowed ∈ wsL_law0 := mL18 _ (List.mem_of_getElem? (i := 4) rfl)
theorem mw437 : Cond.code yX9_isFollowed cX9_isFollowed 1 (some .boolean) ∈ wsL_law0 := mL18 _ (List.mem_of_getElem? (i := 5) rfl)
theorem mw438 : Cond.methodLink RX10 96 yX3_copyFrom ∈ wsL_law0 := mL18 _ (List.mem_of_getElem? (i := 6) rfl)
theorem mw439 : Cond.instanceMethod yX3_copyFrom ∈ wsL_law0 := mL18 _ (List.mem_of_getElem? (i := 7) rfl)
theorem mw440 : Cond.selects RX3 yX3_copyFrom yX3_copyFrom ∈ wsL_law0 := mL18 _ (List.mem_of_getElem? (i := 8) rfl)
theorem mw441 : Cond.code yX3_copyFrom cX3_copyFrom 2 none ∈ wsL_law0 := mL18 _ (List.mem_of_getElem? (i := 9) rfl)
theorem mw442 : Cond.methodLink RX3 51 yX7_copyFrom ∈ wsL_law0 := mL18 _ (List.mem_of_getElem? (i := 10) rfl)
theorem mw443 : Cond.instanceMethod yX7_copyFrom ∈ wsL_law0 := mL18 _ (List.mem_of_getElem? (i := 11) rfl)
theorem mw444 : Cond.selects RX7 yX7_copyFrom yX7_copyFrom ∈ wsL_law0 := mL18 _ (List.mem_of_getElem? (i := 12) rfl)
theorem mw445 : Cond.code yX7_copyFrom cX7_copyFrom 2 none ∈ wsL_law0 := mL18 _ (List.mem_of_getElem? (i := 13) rfl)
theorem mw446 : Cond.methodLink RX7 39 yX8_copyFrom ∈ wsL_law0 := mL18 _ (List.mem_of_getElem? (i := 14) rfl)
theorem mw447 : Cond.instanceMethod yX8_copyFrom ∈ wsL_law0 := mL18 _ (List.mem_of_getElem? (i := 15) rfl)
theorem mw448 : Cond.selects RX8 yX8_copyFrom yX8_copyFrom ∈ wsL_law0 := mL18 _ (List.mem_of_getElem? (i := 16) rfl)
theorem mw449 : Cond.code yX8_copyFrom cX8_copyFrom 2 none ∈ wsL_law0 := mL18 _ (List.mem_of_getElem? (i := 17) rfl)
theorem mw450 : Cond.methodLink RX8 40 arraycopyName ∈ wsL_law0 := mL18 _ (List.mem_of_getElem? (i := 18) rfl)
theorem mw451 : Cond.native arraycopyName ∈ wsL_law0 := mL18 _ (List.mem_of_getElem? (i := 19) rfl)
theorem mw452 : Cond.static arraycopyName ∈ wsL_law0 := mL18 _ (List.mem_of_getElem? (i := 20) rfl)
theorem mw453 : Cond.initialized "java/lang/System" ∈ wsL_law0 := mL18 _ (List.mem_of_getElem? (i := 21) rfl)
theorem mw454 : Cond.methodLink RX3 55 yX8_copyFrom ∈ wsL_law0 := mL18 _ (List.mem_of_getElem? (i := 22) rfl)
theorem mw455 : Cond.methodLink RX10 103 yX7_copyFrom ∈ wsL_law0 := mL18 _ (List.mem_of_getElem? (i := 23) rfl)
theorem mw456 : Cond.methodLink RX10 106 yX4_forget ∈ wsL_law0 := mL19 _ (List.mem_of_getElem? (i := 0) rfl)
theorem mw457 : Cond.instanceMethod yX4_forget ∈ wsL_law0 := mL19 _ (List.mem_of_getElem? (i := 1) rfl)
theorem mw458 : Cond.selects RX4 yX4_forget yX4_forget ∈ wsL_law0 := mL19 _ (List.mem_of_getElem? (i := 2) rfl)
theorem mw459 : Cond.code yX4_forget cX4_forget 1 none ∈ wsL_law0 := mL19 _ (List.mem_of_getElem? (i := 3) rfl)
theorem mw460 : Cond.methodLink RX10 118 yX10_tell ∈ wsL_law0 := mL19 _ (List.mem_of_getElem? (i := 4) rfl)
theorem mw461 : Cond.instanceMethod yX10_tell ∈ wsL_law0 := mL19 _ (List.mem_of_getElem? (i := 5) rfl)
theorem mw462 : Cond.selects RX10 yX10_tell yX10_tell ∈ wsL_law0 := mL19 _ (List.mem_of_getElem? (i := 6) rfl)
theorem mw463 : Cond.code yX10_tell cX10_tell 2 (some .int) ∈ wsL_law0 := mL19 _ (List.mem_of_getElem? (i := 7) rfl)
theorem mw464 : Cond.methodLink RL 27 yX11_house ∈ wsL_law0 := mL19 _ (List.mem_of_getElem? (i := 8) rfl)
theorem mw465 : Cond.instanceMethod yX11_house ∈ wsL_law0 := mL19 _ (List.mem_of_getElem? (i := 9) rfl)
theorem mw466 : Cond.selects RX11 yX11_house yX11_house ∈ wsL_law0 := mL19 _ (List.mem_of_getElem? (i := 10) rfl)
theorem mw467 : Cond.code yX11_house cX11_house 3 (some .int) ∈ wsL_law0 := mL19 _ (List.mem_of_getElem? (i := 11) rfl)
theorem mw468 : Cond.fieldLink RX11 125 "ReelChangeModel" "fault" "I" ∈ wsL_law0 := mL19 _ (List.mem_of_getElem? (i := 12) rfl)
theorem mw469 : Cond.fieldLink RX11 121 "ReelChangeModel" "failed" "Z" ∈ wsL_law0 := mL19 _ (List.mem_of_getElem? (i := 13) rfl)
theorem mw470 : Cond.fieldLink RX11 92 "ReelChangeModel" "size" "I" ∈ wsL_law0 := mL19 _ (List.mem_of_getElem? (i := 14) rfl)
theorem mw471 : Cond.fieldLink RX11 95 "ReelChangeModel" "end" "I" ∈ wsL_law0 := mL19 _ (List.mem_of_getElem? (i := 15) rfl)
theorem mw472 : Cond.fieldLink RX11 111 "ReelChangeModel" "token" "I" ∈ wsL_law0 := mL19 _ (List.mem_of_getElem? (i := 16) rfl)
theorem mw473 : Cond.fieldLink RX11 102 "ReelChangeModel" "at" "I" ∈ wsL_law0 := mL19 _ (List.mem_of_getElem? (i := 17) rfl)
theorem mw474 : Cond.fieldLink RX11 213 "ReelChangeModel" "hasHouse" "Z" ∈ wsL_law0 := mL19 _ (List.mem_of_getElem? (i := 18) rfl)
theorem mw475 : Cond.fieldLink RX11 216 "ReelChangeModel" "undos" "I" ∈ wsL_law0 := mL19 _ (List.mem_of_getElem? (i := 19) rfl)
theorem mw476 : Cond.fieldLink RX11 219 "ReelChangeModel" "images" "I" ∈ wsL_law0 := mL19 _ (List.mem_of_getElem? (i := 20) rfl)
theorem mw477 : Cond.methodLink RX11 200 yX11_good ∈ wsL_law0 := mL19 _ (List.mem_of_getElem? (i := 21) rfl)
theorem mw478 : Cond.instanceMethod yX11_good ∈ wsL_law0 := mL19 _ (List.mem_of_getElem? (i := 22) rfl)
theorem mw479 : Cond.selects RX11 yX11_good yX11_good ∈ wsL_law0 := mL19 _ (List.mem_of_getElem? (i := 23) rfl)
theorem mw480 : Cond.code yX11_good cX11_good 1 none ∈ wsL_law0 := mL20 _ (List.mem_of_getElem? (i := 0) rfl)
theorem mw481 : Cond.fieldLink RX11 86 "ReelChangeModel" "trouble" "I" ∈ wsL_law0 := mL20 _ (List.mem_of_getElem? (i := 1) rfl)
theorem mw482 : Cond.methodLink RX11 182 yX11_in ∈ wsL_law0 := mL20 _ (List.mem_of_getElem? (i := 2) rfl)
theorem mw483 : Cond.static yX11_in ∈ wsL_law0 := mL20 _ (List.mem_of_getElem? (i := 3) rfl)
theorem mw484 : Cond.code yX11_in cX11_in 3 (some .boolean) ∈ wsL_law0 := mL20 _ (List.mem_of_getElem? (i := 4) rfl)
theorem mw485 : Cond.methodLink RX11 203 yX11_no ∈ wsL_law0 := mL20 _ (List.mem_of_getElem? (i := 5) rfl)
theorem mw486 : Cond.instanceMethod yX11_no ∈ wsL_law0 := mL20 _ (List.mem_of_getElem? (i := 6) rfl)
theorem mw487 : Cond.selects RX11 yX11_no yX11_no ∈ wsL_law0 := mL20 _ (List.mem_of_getElem? (i := 7) rfl)
theorem mw488 : Cond.code yX11_no cX11_no 2 (some .int) ∈ wsL_law0 := mL20 _ (List.mem_of_getElem? (i := 8) rfl)
theorem mw489 : Cond.methodLink RX11 142 yX11_next ∈ wsL_law0 := mL20 _ (List.mem_of_getElem? (i := 9) rfl)
theorem mw490 : Cond.instanceMethod yX11_next ∈ wsL_law0 := mL20 _ (List.mem_of_getElem? (i := 10) rfl)
theorem mw491 : Cond.selects RX11 yX11_next yX11_next ∈ wsL_law0 := mL20 _ (List.mem_of_getElem? (i := 11) rfl)
theorem mw492 : Cond.code yX11_next cX11_next 4 none ∈ wsL_law0 := mL20 _ (List.mem_of_getElem? (i := 12) rfl)
theorem mw493 : Cond.fieldLink RX11 105 "ReelChangeModel" "nameSize" "I" ∈ wsL_law0 := mL20 _ (List.mem_of_getElem? (i := 13) rfl)
theorem mw494 : Cond.fieldLink RX11 108 "ReelChangeModel" "whole" "I" ∈ wsL_law0 := mL20 _ (List.mem_of_getElem? (i := 14) rfl)
theorem mw495 : Cond.methodLink RX11 98 yX11_look ∈ wsL_law0 := mL20 _ (List.mem_of_getElem? (i := 15) rfl)
theorem mw496 : Cond.instanceMethod yX11_look ∈ wsL_law0 := mL20 _ (List.mem_of_getElem? (i := 16) rfl)
theorem mw497 : Cond.selects RX11 yX11_look yX11_look ∈ wsL_law0 := mL20 _ (List.mem_of_getElem? (i := 17) rfl)
theorem mw498 : Cond.code yX11_look cX11_look 2 (some .int) ∈ wsL_law0 := mL20 _ (List.mem_of_getElem? (i := 18) rfl)
theorem mw499 : Cond.methodLink RX11 114 yX11_isSmall ∈ wsL_law0 := mL20 _ (List.mem_of_getElem? (i := 19) rfl)
theorem mw500 : Cond.static yX11_isSmall ∈ wsL_law0 := mL20 _ (List.mem_of_getElem? (i := 20) rfl)
theorem mw501 : Cond.code yX11_isSmall cX11_isSmall 1 (some .boolean) ∈ wsL_law0 := mL20 _ (List.mem_of_getElem? (i := 21) rfl)
theorem mw502 : Cond.methodLink RX11 118 yX11_isDigit ∈ wsL_law0 := mL20 _ (List.mem_of_getElem? (i := 22) rfl)
theorem mw503 : Cond.static yX11_isDigit ∈ wsL_law0 := mL20 _ (List.mem_of_getElem? (i := 23) rfl)
theorem mw504 : Cond.code yX11_isDigit cX11_isDigit 1 (some .boolean) ∈ wsL_law0 := mL21 _ (List.mem_of_getElem? (i := 0) rfl)
theorem mw505 : Cond.methodLink RX11 206 yX11_readLine ∈ wsL_law0 := mL21 _ (List.mem_of_getElem? (i := 1) rfl)
theorem mw506 : Cond.instanceMethod yX11_readLine ∈ wsL_law0 := mL21 _ (List.mem_of_getElem? (i := 2) rfl)
theorem mw507 : Cond.selects RX11 yX11_readLine yX11_readLine ∈ wsL_law0 := mL21 _ (List.mem_of_getElem? (i := 3) rfl)
theorem mw508 : Cond.code yX11_readLine cX11_readLine 1 none ∈ wsL_law0 := mL21 _ (List.mem_of_getElem? (i := 4) rfl)
theorem mw509 : Cond.methodLink RX11 138 yX11_isWord ∈ wsL_law0 := mL21 _ (List.mem_of_getElem? (i := 5) rfl)
theorem mw510 : Cond.instanceMethod yX11_isWord ∈ wsL_law0 := mL21 _ (List.mem_of_getElem? (i := 6) rfl)
theorem mw511 : Cond.selects RX11 yX11_isWord yX11_isWord ∈ wsL_law0 := mL21 _ (List.mem_of_getElem? (i := 7) rfl)
theorem mw512 : Cond.code yX11_isWord cX11_isWord 4 (some .boolean) ∈ wsL_law0 := mL21 _ (List.mem_of_getElem? (i := 8) rfl)
theorem mw513 : Cond.methodLink RX11 128 yJ0_length_8abf5 ∈ wsL_law0 := mL21 _ (List.mem_of_getElem? (i := 9) rfl)
theorem mw514 : Cond.methodLink RX11 134 yJ0_charAt_5068e ∈ wsL_law0 := mL21 _ (List.mem_of_getElem? (i := 10) rfl)
theorem mw515 : Cond.methodLink RX11 222 yX11_houseLine ∈ wsL_law0 := mL21 _ (List.mem_of_getElem? (i := 11) rfl)
theorem mw516 : Cond.instanceMethod yX11_houseLine ∈ wsL_law0 := mL21 _ (List.mem_of_getElem? (i := 12) rfl)
theorem mw517 : Cond.selects RX11 yX11_houseLine yX11_houseLine ∈ wsL_law0 := mL21 _ (List.mem_of_getElem? (i := 13) rfl)
theorem mw518 : Cond.code yX11_houseLine cX11_houseLine 1 none ∈ wsL_law0 := mL21 _ (List.mem_of_getElem? (i := 14) rfl)
theorem mw519 : Cond.methodLink RX11 148 yX11_bad ∈ wsL_law0 := mL21 _ (List.mem_of_getElem? (i := 15) rfl)
theorem mw520 : Cond.instanceMethod yX11_bad ∈ wsL_law0 := mL21 _ (List.mem_of_getElem? (i := 16) rfl)
theorem mw521 : Cond.selects RX11 yX11_bad yX11_bad ∈ wsL_law0 := mL21 _ (List.mem_of_getElem? (i := 17) rfl)
theorem mw522 : Cond.code yX11_bad cX11_bad 3 none ∈ wsL_law0 := mL21 _ (List.mem_of_getElem? (i := 18) rfl)
theorem mw523 : Cond.methodLink RX11 264 yX11_after ∈ wsL_law0 := mL21 _ (List.mem_of_getElem? (i := 19) rfl)
theorem mw524 : Cond.instanceMethod yX11_after ∈ wsL_law0 := mL21 _ (List.mem_of_getElem? (i := 20) rfl)
theorem mw525 : Cond.selects RX11 yX11_after yX11_after ∈ wsL_law0 := mL21 _ (List.mem_of_getElem? (i := 21) rfl)
theorem mw526 : Cond.code yX11_after cX11_after 4 (some .int) ∈ wsL_law0 := mL21 _ (List.mem_of_getElem? (i := 22) rfl)
theorem mw527 : Cond.methodLink RX11 193 yX11_must ∈ wsL_law0 := mL21 _ (List.mem_of_getElem? (i := 23) rfl)
theorem mw528 : Cond.instanceMethod yX11_must ∈ wsL_law0 := mL22 _ (List.mem_of_getElem? (i := 0) rfl)
theorem mw529 : Cond.selects RX11 yX11_must yX11_must ∈ wsL_law0 := mL22 _ (List.mem_of_getElem? (i := 1) rfl)
theorem mw530 : Cond.code yX11_must cX11_must 2 none ∈ wsL_law0 := mL22 _ (List.mem_of_getElem? (i := 2) rfl)
theorem mw531 : Cond.methodLink RX11 145 yX11_takesWord ∈ wsL_law0 := mL22 _ (List.mem_of_getElem? (i := 3) rfl)
theorem mw532 : Cond.instanceMethod yX11_takesWord ∈ wsL_law0 := mL22 _ (List.mem_of_getElem? (i := 4) rfl)
theorem mw533 : Cond.selects RX11 yX11_takesWord yX11_takesWord ∈ wsL_law0 := mL22 _ (List.mem_of_getElem? (i := 5) rfl)
theorem mw534 : Cond.code yX11_takesWord cX11_takesWord 2 (some .boolean) ∈ wsL_law0 := mL22 _ (List.mem_of_getElem? (i := 6) rfl)
theorem mw535 : Cond.methodLink RX11 197 yX11_number ∈ wsL_law0 := mL22 _ (List.mem_of_getElem? (i := 7) rfl)
theorem mw536 : Cond.instanceMethod yX11_number ∈ wsL_law0 := mL22 _ (List.mem_of_getElem? (i := 8) rfl)
theorem mw537 : Cond.selects RX11 yX11_number yX11_number ∈ wsL_law0 := mL22 _ (List.mem_of_getElem? (i := 9) rfl)
theorem mw538 : Cond.code yX11_number cX11_number 4 (some .int) ∈ wsL_law0 := mL22 _ (List.mem_of_getElem? (i := 10) rfl)
theorem mw539 : Cond.methodLink RX11 190 yX11_numberHere ∈ wsL_law0 := mL22 _ (List.mem_of_getElem? (i := 11) rfl)
theorem mw540 : Cond.instanceMethod yX11_numberHere ∈ wsL_law0 := mL22 _ (List.mem_of_getElem? (i := 12) rfl)
theorem mw541 : Cond.selects RX11 yX11_numberHere yX11_numberHere ∈ wsL_law0 := mL22 _ (List.mem_of_getElem? (i := 13) rfl)
theorem mw542 : Cond.code yX11_numberHere cX11_numberHere 3 (some .int) ∈ wsL_law0 := mL22 _ (List.mem_of_getElem? (i := 14) rfl)
theorem mw543 : Cond.methodLink RX11 225 yX11_opens ∈ wsL_law0 := mL22 _ (List.mem_of_getElem? (i := 15) rfl)
theorem mw544 : Cond.instanceMethod yX11_opens ∈ wsL_law0 := mL22 _ (List.mem_of_getElem? (i := 16) rfl)
theorem mw545 : Cond.selects RX11 yX11_opens yX11_opens ∈ wsL_law0 := mL22 _ (List.mem_of_getElem? (i := 17) rfl)
theorem mw546 : Cond.code yX11_opens cX11_opens 3 (some .boolean) ∈ wsL_law0 := mL22 _ (List.mem_of_getElem? (i := 18) rfl)
theorem mw547 : Cond.methodLink RX11 229 yX11_reelLine ∈ wsL_law0 := mL22 _ (List.mem_of_getElem? (i := 19) rfl)
theorem mw548 : Cond.instanceMethod yX11_reelLine ∈ wsL_law0 := mL22 _ (List.mem_of_getElem? (i := 20) rfl)
theorem mw549 : Cond.selects RX11 yX11_reelLine yX11_reelLine ∈ wsL_law0 := mL22 _ (List.mem_of_getElem? (i := 21) rfl)
theorem mw550 : Cond.code yX11_reelLine cX11_reelLine 2 none ∈ wsL_law0 := mL22 _ (List.mem_of_getElem? (i := 22) rfl)
theorem mw551 : Cond.methodLink RX11 277 yX11_newName ∈ wsL_law0 := mL22 _ (List.mem_of_getElem? (i := 23) rfl)
theorem mw552 : Cond.instanceMethod yX11_newName ∈ wsL_law0 := mL23 _ (List.mem_of_getElem? (i := 0) rfl)
theorem mw553 : Cond.selects RX11 yX11_newName yX11_newName ∈ wsL_law0 := mL23 _ (List.mem_of_getElem? (i := 1) rfl)
theorem mw554 : Cond.code yX11_newName cX11_newName 3 none ∈ wsL_law0 := mL23 _ (List.mem_of_getElem? (i := 2) rfl)
theorem mw555 : Cond.methodLink RX11 176 yX11_mustName ∈ wsL_law0 := mL23 _ (List.mem_of_getElem? (i := 3) rfl)
theorem mw556 : Cond.instanceMethod yX11_mustName ∈ wsL_law0 := mL23 _ (List.mem_of_getElem? (i := 4) rfl)
theorem mw557 : Cond.selects RX11 yX11_mustName yX11_mustName ∈ wsL_law0 := mL23 _ (List.mem_of_getElem? (i := 5) rfl)
theorem mw558 : Cond.code yX11_mustName cX11_mustName 2 none ∈ wsL_law0 := mL23 _ (List.mem_of_getElem? (i := 6) rfl)
theorem mw559 : Cond.methodLink RX11 179 yX11_find ∈ wsL_law0 := mL23 _ (List.mem_of_getElem? (i := 7) rfl)
theorem mw560 : Cond.instanceMethod yX11_find ∈ wsL_law0 := mL23 _ (List.mem_of_getElem? (i := 8) rfl)
theorem mw561 : Cond.selects RX11 yX11_find yX11_find ∈ wsL_law0 := mL23 _ (List.mem_of_getElem? (i := 9) rfl)
theorem mw562 : Cond.code yX11_find cX11_find 4 (some .int) ∈ wsL_law0 := mL23 _ (List.mem_of_getElem? (i := 10) rfl)
theorem mw563 : Cond.methodLink RX11 232 yX11_townLine ∈ wsL_law0 := mL23 _ (List.mem_of_getElem? (i := 11) rfl)
theorem mw564 : Cond.instanceMethod yX11_townLine ∈ wsL_law0 := mL23 _ (List.mem_of_getElem? (i := 12) rfl)
theorem mw565 : Cond.selects RX11 yX11_townLine yX11_townLine ∈ wsL_law0 := mL23 _ (List.mem_of_getElem? (i := 13) rfl)
theorem mw566 : Cond.code yX11_townLine cX11_townLine 1 none ∈ wsL_law0 := mL23 _ (List.mem_of_getElem? (i := 14) rfl)
theorem mw567 : Cond.methodLink RX11 235 yX11_markLine ∈ wsL_law0 := mL23 _ (List.mem_of_getElem? (i := 15) rfl)
theorem mw568 : Cond.instanceMethod yX11_markLine ∈ wsL_law0 := mL23 _ (List.mem_of_getElem? (i := 16) rfl)
theorem mw569 : Cond.selects RX11 yX11_markLine yX11_markLine ∈ wsL_law0 := mL23 _ (List.mem_of_getElem? (i := 17) rfl)
theorem mw570 : Cond.code yX11_markLine cX11_markLine 6 none ∈ wsL_law0 := mL23 _ (List.mem_of_getElem? (i := 18) rfl)
theorem mw571 : Cond.methodLink RX11 288 yX11_reelPassed ∈ wsL_law0 := mL23 _ (List.mem_of_getElem? (i := 19) rfl)
theorem mw572 : Cond.instanceMethod yX11_reelPassed ∈ wsL_law0 := mL23 _ (List.mem_of_getElem? (i := 20) rfl)
theorem mw573 : Cond.selects RX11 yX11_reelPassed yX11_reelPassed ∈ wsL_law0 := mL23 _ (List.mem_of_getElem? (i := 21) rfl)
theorem mw574 : Cond.code yX11_reelPassed cX11_reelPassed 2 (some .int) ∈ wsL_law0 := mL23 _ (List.mem_of_getElem? (i := 22) rfl)
theorem mw575 : Cond.methodLink RX11 186 yX11_named ∈ wsL_law0 := mL23 _ (List.mem_of_getElem? (i := 23) rfl)
theorem mw576 : Cond.instanceMethod yX11_named ∈ wsL_law0 := mL24 _ (List.mem_of_getElem? (i := 0) rfl)
theorem mw577 : Cond.selects RX11 yX11_named yX11_named ∈ wsL_law0 := mL24 _ (List.mem_of_getElem? (i := 1) rfl)
theorem mw578 : Cond.code yX11_named cX11_named 4 (some .int) ∈ wsL_law0 := mL24 _ (List.mem_of_getElem? (i := 2) rfl)
theorem mw579 : Cond.methodLink RX11 291 yX11_frameOf ∈ wsL_law0 := mL24 _ (List.mem_of_getElem? (i := 3) rfl)
theorem mw580 : Cond.instanceMethod yX11_frameOf ∈ wsL_law0 := mL24 _ (List.mem_of_getElem? (i := 4) rfl)
theorem mw581 : Cond.selects RX11 yX11_frameOf yX11_frameOf ∈ wsL_law0 := mL24 _ (List.mem_of_getElem? (i := 5) rfl)
theorem mw582 : Cond.code yX11_frameOf cX11_frameOf 2 (some .int) ∈ wsL_law0 := mL24 _ (List.mem_of_getElem? (i := 6) rfl)
theorem mw583 : Cond.methodLink RX11 238 yX11_joinLine ∈ wsL_law0 := mL24 _ (List.mem_of_getElem? (i := 7) rfl)
theorem mw584 : Cond.instanceMethod yX11_joinLine ∈ wsL_law0 := mL24 _ (List.mem_of_getElem? (i := 8) rfl)
theorem mw585 : Cond.selects RX11 yX11_joinLine yX11_joinLine ∈ wsL_law0 := mL24 _ (List.mem_of_getElem? (i := 9) rfl)
theorem mw586 : Cond.code yX11_joinLine cX11_joinLine 2 none ∈ wsL_law0 := mL24 _ (List.mem_of_getElem? (i := 10) rfl)
theorem mw587 : Cond.methodLink RX11 241 yX11_weakLine ∈ wsL_law0 := mL24 _ (List.mem_of_getElem? (i := 11) rfl)
theorem mw588 : Cond.instanceMethod yX11_weakLine ∈ wsL_law0 := mL24 _ (List.mem_of_getElem? (i := 12) rfl)
theorem mw589 : Cond.selects RX11 yX11_weakLine yX11_weakLine ∈ wsL_law0 := mL24 _ (List.mem_of_getElem? (i := 13) rfl)
theorem mw590 : Cond.code yX11_weakLine cX11_weakLine 5 none ∈ wsL_law0 := mL24 _ (List.mem_of_getElem? (i := 14) rfl)
theorem mw591 : Cond.methodLink RX11 244 yX11_manLine ∈ wsL_law0 := mL24 _ (List.mem_of_getElem? (i := 15) rfl)
theorem mw592 : Cond.instanceMethod yX11_manLine ∈ wsL_law0 := mL24 _ (List.mem_of_getElem? (i := 16) rfl)
theorem mw593 : Cond.selects RX11 yX11_manLine yX11_manLine ∈ wsL_law0 := mL24 _ (List.mem_of_getElem? (i := 17) rfl)
theorem mw594 : Cond.code yX11_manLine cX11_manLine 5 none ∈ wsL_law0 := mL24 _ (List.mem_of_getElem? (i := 18) rfl)
theorem mw595 : Cond.methodLink RX11 247 yX11_opensOnce ∈ wsL_law0 := mL24 _ (List.mem_of_getElem? (i := 19) rfl)
theorem mw596 : Cond.instanceMethod yX11_opensOnce ∈ wsL_law0 := mL24 _ (List.mem_of_getElem? (i := 20) rfl)
theorem mw597 : Cond.selects RX11 yX11_opensOnce yX11_opensOnce ∈ wsL_law0 := mL24 _ (List.mem_of_getElem? (i := 21) rfl)
theorem mw598 : Cond.code yX11_opensOnce cX11_opensOnce 3 (some .boolean) ∈ wsL_law0 := mL24 _ (List.mem_of_getElem? (i := 22) rfl)
theorem mw599 : Cond.methodLink RX11 250 yX11_showsLine ∈ wsL_law0 := mL24 _ (List.mem_of_getElem? (i := 23) rfl)
theorem mw600 : Cond.instanceMethod yX11_showsLine ∈ wsL_law0 := mL25 _ (List.mem_of_getElem? (i := 0) rfl)
theorem mw601 : Cond.selects RX11 yX11_showsLine yX11_showsLine ∈ wsL_law0 := mL25 _ (List.mem_of_getElem? (i := 1) rfl)
theorem mw602 : Cond.code yX11_showsLine cX11_showsLine 4 none ∈ wsL_law0 := mL25 _ (List.mem_of_getElem? (i := 2) rfl)
theorem mw603 : Cond.methodLink RX11 308 yX11_comma ∈ wsL_law0 := mL25 _ (List.mem_of_getElem? (i := 3) rfl)
theorem mw604 : Cond.instanceMethod yX11_comma ∈ wsL_law0 := mL25 _ (List.mem_of_getElem? (i := 4) rfl)
theorem mw605 : Cond.selects RX11 yX11_comma yX11_comma ∈ wsL_law0 := mL25 _ (List.mem_of_getElem? (i := 5) rfl)
theorem mw606 : Cond.code yX11_comma cX11_comma 1 (some .boolean) ∈ wsL_law0 := mL25 _ (List.mem_of_getElem? (i := 6) rfl)
theorem mw607 : Cond.methodLink RX11 253 yX11_boysLine ∈ wsL_law0 := mL25 _ (List.mem_of_getElem? (i := 7) rfl)
theorem mw608 : Cond.instanceMethod yX11_boysLine ∈ wsL_law0 := mL25 _ (List.mem_of_getElem? (i := 8) rfl)
theorem mw609 : Cond.selects RX11 yX11_boysLine yX11_boysLine ∈ wsL_law0 := mL25 _ (List.mem_of_getElem? (i := 9) rfl)
theorem mw610 : Cond.code yX11_boysLine cX11_boysLine 2 none ∈ wsL_law0 := mL25 _ (List.mem_of_getElem? (i := 10) rfl)
theorem mw611 : Cond.methodLink RX11 256 yX11_seenLine ∈ wsL_law0 := mL25 _ (List.mem_of_getElem? (i := 11) rfl)
theorem mw612 : Cond.instanceMethod yX11_seenLine ∈ wsL_law0 := mL25 _ (List.mem_of_getElem? (i := 12) rfl)
theorem mw613 : Cond.selects RX11 yX11_seenLine yX11_seenLine ∈ wsL_law0 := mL25 _ (List.mem_of_getElem? (i := 13) rfl)
theorem mw614 : Cond.code yX11_seenLine cX11_seenLine 2 none ∈ wsL_law0 := mL25 _ (List.mem_of_getElem? (i := 14) rfl)
theorem mw615 : Cond.methodLink RX11 259 yX11_scratchLine ∈ wsL_law0 := mL25 _ (List.mem_of_getElem? (i := 15) rfl)
theorem mw616 : Cond.instanceMethod yX11_scratchLine ∈ wsL_law0 := mL25 _ (List.mem_of_getElem? (i := 16) rfl)
theorem mw617 : Cond.selects RX11 yX11_scratchLine yX11_scratchLine ∈ wsL_law0 := mL25 _ (List.mem_of_getElem? (i := 17) rfl)
theorem mw618 : Cond.code yX11_scratchLine cX11_scratchLine 2 none ∈ wsL_law0 := mL25 _ (List.mem_of_getElem? (i := 18) rfl)
theorem mw619 : Cond.methodLink RX11 209 yX11_copy ∈ wsL_law0 := mL25 _ (List.mem_of_getElem? (i := 19) rfl)
theorem mw620 : Cond.static yX11_copy ∈ wsL_law0 := mL25 _ (List.mem_of_getElem? (i := 20) rfl)
theorem mw621 : Cond.code yX11_copy cX11_copy 6 none ∈ wsL_law0 := mL25 _ (List.mem_of_getElem? (i := 21) rfl)
theorem mw622 : Cond.methodLink RL 28 yX10_fault ∈ wsL_law0 := mL25 _ (List.mem_of_getElem? (i := 22) rfl)
theorem mw623 : Cond.instanceMethod yX10_fault ∈ wsL_law0 := mL25 _ (List.mem_of_getElem? (i := 23) rfl)
theorem mw624 : Cond.selects RX10 yX10_fault yX10_fault ∈ wsL_law0 := mL26 _ (List.mem_of_getElem? (i := 0) rfl)
theorem mw625 : Cond.code yX10_fault cX10_fault 1 (some .int) ∈ wsL_law0 := mL26 _ (List.mem_of_getElem? (i := 1) rfl)
theorem mw626 : Cond.methodLink RL 32 yX11_fault ∈ wsL_law0 := mL26 _ (List.mem_of_getElem? (i := 2) rfl)
theorem mw627 : Cond.instanceMethod yX11_fault ∈ wsL_law0 := mL26 _ (List.mem_of_getElem? (i := 3) rfl)
theorem mw628 : Cond.selects RX11 yX11_fault yX11_fault ∈ wsL_law0 := mL26 _ (List.mem_of_getElem? (i := 4) rfl)
theorem mw629 : Cond.code yX11_fault cX11_fault 1 (some .int) ∈ wsL_law0 := mL26 _ (List.mem_of_getElem? (i := 5) rfl)
theorem mw630 : Cond.methodLink RL 33 yX10_where ∈ wsL_law0 := mL26 _ (List.mem_of_getElem? (i := 6) rfl)
theorem mw631 : Cond.instanceMethod yX10_where ∈ wsL_law0 := mL26 _ (List.mem_of_getElem? (i := 7) rfl)
theorem mw632 : Cond.selects RX10 yX10_where yX10_where ∈ wsL_law0 := mL26 _ (List.mem_of_getElem? (i := 8) rfl)
theorem mw633 : Cond.code yX10_where cX10_where 1 (some .int) ∈ wsL_law0 := mL26 _ (List.mem_of_getElem? (i := 9) rfl)
theorem mw634 : Cond.fieldLink RX10 121 "ReelChange$Text" "faultPlace" "I" ∈ wsL_law0 := mL26 _ (List.mem_of_getElem? (i := 10) rfl)
theorem mw635 : Cond.methodLink RL 36 yX11_where ∈ wsL_law0 := mL26 _ (List.mem_of_getElem? (i := 11) rfl)
theorem mw636 : Cond.instanceMethod yX11_where ∈ wsL_law0 := mL26 _ (List.mem_of_getElem? (i := 12) rfl)
theorem mw637 : Cond.selects RX11 yX11_where yX11_where ∈ wsL_law0 := mL26 _ (List.mem_of_getElem? (i := 13) rfl)
theorem mw638 : Cond.code yX11_where cX11_where 1 (some .int) ∈ wsL_law0 := mL26 _ (List.mem_of_getElem? (i := 14) rfl)
theorem mw639 : Cond.methodLink RL 37 yX10_reel ∈ wsL_law0 := mL26 _ (List.mem_of_getElem? (i := 15) rfl)
theorem mw640 : Cond.instanceMethod yX10_reel ∈ wsL_law0 := mL26 _ (List.mem_of_getElem? (i := 16) rfl)
theorem mw641 : Cond.selects RX10 yX10_reel yX10_reel ∈ wsL_law0 := mL26 _ (List.mem_of_getElem? (i := 17) rfl)
theorem mw642 : Cond.code yX10_reel cX10_reel 3 (some .int) ∈ wsL_law0 := mL26 _ (List.mem_of_getElem? (i := 18) rfl)
theorem mw643 : Cond.fieldLink RX10 124 "ReelChange$State" "reels" "LReelChange$Table;" ∈ wsL_law0 := mL26 _ (List.mem_of_getElem? (i := 19) rfl)
theorem mw644 : Cond.fieldLink RX10 131 "ReelChange$State" "marks" "LReelChange$Table;" ∈ wsL_law0 := mL26 _ (List.mem_of_getElem? (i := 20) rfl)
theorem mw645 : Cond.fieldLink RX10 138 "ReelChange$House" "joins" "LReelChange$Table;" ∈ wsL_law0 := mL26 _ (List.mem_of_getElem? (i := 21) rfl)
theorem mw646 : Cond.fieldLink RX10 144 "ReelChange$State" "weaks" "LReelChange$Table;" ∈ wsL_law0 := mL26 _ (List.mem_of_getElem? (i := 22) rfl)
theorem mw647 : Cond.methodLink RX10 127 yX8_has ∈ wsL_law0 := mL26 _ (List.mem_of_getElem? (i := 23) rfl)
theorem mw648 : Cond.instanceMethod yX8_has ∈ wsL_law0 := mL27 _ (List.mem_of_getElem? (i := 0) rfl)
theorem mw649 : Cond.selects RX8 yX8_has yX8_has ∈ wsL_law0 := mL27 _ (List.mem_of_getElem? (i := 1) rfl)
theorem mw650 : Cond.code yX8_has cX8_has 2 (some .boolean) ∈ wsL_law0 := mL27 _ (List.mem_of_getElem? (i := 2) rfl)
theorem mw651 : Cond.methodLink RX10 134 yX8_howMany ∈ wsL_law0 := mL27 _ (List.mem_of_getElem? (i := 3) rfl)
theorem mw652 : Cond.instanceMethod yX8_howMany ∈ wsL_law0 := mL27 _ (List.mem_of_getElem? (i := 4) rfl)
theorem mw653 : Cond.selects RX8 yX8_howMany yX8_howMany ∈ wsL_law0 := mL27 _ (List.mem_of_getElem? (i := 5) rfl)
theorem mw654 : Cond.code yX8_howMany cX8_howMany 5 (some .int) ∈ wsL_law0 := mL27 _ (List.mem_of_getElem? (i := 6) rfl)
theorem mw655 : Cond.methodLink RX8 37 yX8_at ∈ wsL_law0 := mL27 _ (List.mem_of_getElem? (i := 7) rfl)
theorem mw656 : Cond.methodLink RX10 141 yX7_mendedOn ∈ wsL_law0 := mL27 _ (List.mem_of_getElem? (i := 8) rfl)
theorem mw657 : Cond.instanceMethod yX7_mendedOn ∈ wsL_law0 := mL27 _ (List.mem_of_getElem? (i := 9) rfl)
theorem mw658 : Cond.selects RX7 yX7_mendedOn yX7_mendedOn ∈ wsL_law0 := mL27 _ (List.mem_of_getElem? (i := 10) rfl)
theorem mw659 : Cond.code yX7_mendedOn cX7_mendedOn 4 (some .int) ∈ wsL_law0 := mL27 _ (List.mem_of_getElem? (i := 11) rfl)
theorem mw660 : Cond.methodLink RX7 54 yX7_isWeak ∈ wsL_law0 := mL27 _ (List.mem_of_getElem? (i := 12) rfl)
theorem mw661 : Cond.instanceMethod yX7_isWeak ∈ wsL_law0 := mL27 _ (List.mem_of_getElem? (i := 13) rfl)
theorem mw662 : Cond.selects RX7 yX7_isWeak yX7_isWeak ∈ wsL_law0 := mL27 _ (List.mem_of_getElem? (i := 14) rfl)
theorem mw663 : Cond.code yX7_isWeak cX7_isWeak 2 (some .boolean) ∈ wsL_law0 := mL27 _ (List.mem_of_getElem? (i := 15) rfl)
theorem mw664 : Cond.methodLink RX7 47 yX8_has ∈ wsL_law0 := mL27 _ (List.mem_of_getElem? (i := 16) rfl)
theorem mw665 : Cond.methodLink RX10 147 yX8_at ∈ wsL_law0 := mL27 _ (List.mem_of_getElem? (i := 17) rfl)
theorem mw666 : Cond.methodLink RL 41 yX11_reel ∈ wsL_law0 := mL27 _ (List.mem_of_getElem? (i := 18) rfl)
theorem mw667 : Cond.instanceMethod yX11_reel ∈ wsL_law0 := mL27 _ (List.mem_of_getElem? (i := 19) rfl)
theorem mw668 : Cond.selects RX11 yX11_reel yX11_reel ∈ wsL_law0 := mL27 _ (List.mem_of_getElem? (i := 20) rfl)
theorem mw669 : Cond.code yX11_reel cX11_reel 3 (some .int) ∈ wsL_law0 := mL27 _ (List.mem_of_getElem? (i := 21) rfl)
theorem mw670 : Cond.methodLink RX11 327 yX11_isReel ∈ wsL_law0 := mL27 _ (List.mem_of_getElem? (i := 22) rfl)
theorem mw671 : Cond.instanceMethod yX11_isReel ∈ wsL_law0 := mL27 _ (List.mem_of_getElem? (i := 23) rfl)
theorem mw672 : Cond.selects RX11 yX11_isReel yX11_isReel ∈ wsL_law0 := mL28 _ (List.mem_of_getElem? (i := 0) rfl)
theorem mw673 : Cond.code yX11_isReel cX11_isReel 2 (some .boolean) ∈ wsL_law0 := mL28 _ (List.mem_of_getElem? (i := 1) rfl)
theorem mw674 : Cond.methodLink RX11 330 yX11_marksOf ∈ wsL_law0 := mL28 _ (List.mem_of_getElem? (i := 2) rfl)
theorem mw675 : Cond.instanceMethod yX11_marksOf ∈ wsL_law0 := mL28 _ (List.mem_of_getElem? (i := 3) rfl)
theorem mw676 : Cond.selects RX11 yX11_marksOf yX11_marksOf ∈ wsL_law0 := mL28 _ (List.mem_of_getElem? (i := 4) rfl)
theorem mw677 : Cond.code yX11_marksOf cX11_marksOf 4 (some .int) ∈ wsL_law0 := mL28 _ (List.mem_of_getElem? (i := 5) rfl)
theorem mw678 : Cond.methodLink RX11 333 yX11_joinsOf ∈ wsL_law0 := mL28 _ (List.mem_of_getElem? (i := 6) rfl)
theorem mw679 : Cond.instanceMethod yX11_joinsOf ∈ wsL_law0 := mL28 _ (List.mem_of_getElem? (i := 7) rfl)
theorem mw680 : Cond.selects RX11 yX11_joinsOf yX11_joinsOf ∈ wsL_law0 := mL28 _ (List.mem_of_getElem? (i := 8) rfl)
theorem mw681 : Cond.code yX11_joinsOf cX11_joinsOf 4 (some .int) ∈ wsL_law0 := mL28 _ (List.mem_of_getElem? (i := 9) rfl)
theorem mw682 : Cond.methodLink RX11 339 yX11_isMended ∈ wsL_law0 := mL28 _ (List.mem_of_getElem? (i := 10) rfl)
theorem mw683 : Cond.instanceMethod yX11_isMended ∈ wsL_law0 := mL28 _ (List.mem_of_getElem? (i := 11) rfl)
theorem mw684 : Cond.selects RX11 yX11_isMended yX11_isMended ∈ wsL_law0 := mL28 _ (List.mem_of_getElem? (i := 12) rfl)
theorem mw685 : Cond.code yX11_isMended cX11_isMended 2 (some .boolean) ∈ wsL_law0 := mL28 _ (List.mem_of_getElem? (i := 13) rfl)
theorem mw686 : Cond.methodLink RX11 320 yX11_hasBit ∈ wsL_law0 := mL28 _ (List.mem_of_getElem? (i := 14) rfl)
theorem mw687 : Cond.static yX11_hasBit ∈ wsL_law0 := mL28 _ (List.mem_of_getElem? (i := 15) rfl)
theorem mw688 : Cond.code yX11_hasBit cX11_hasBit 2 (some .boolean) ∈ wsL_law0 := mL28 _ (List.mem_of_getElem? (i := 16) rfl)
theorem mw689 : Cond.methodLink RX11 336 yX11_weaksOf ∈ wsL_law0 := mL28 _ (List.mem_of_getElem? (i := 17) rfl)
theorem mw690 : Cond.instanceMethod yX11_weaksOf ∈ wsL_law0 := mL28 _ (List.mem_of_getElem? (i := 18) rfl)
theorem mw691 : Cond.selects RX11 yX11_weaksOf yX11_weaksOf ∈ wsL_law0 := mL28 _ (List.mem_of_getElem? (i := 19) rfl)
theorem mw692 : Cond.code yX11_weaksOf cX11_weaksOf 4 (some .int) ∈ wsL_law0 := mL28 _ (List.mem_of_getElem? (i := 20) rfl)
theorem mw693 : Cond.methodLink RL 42 yX10_mark ∈ wsL_law0 := mL28 _ (List.mem_of_getElem? (i := 21) rfl)
theorem mw694 : Cond.instanceMethod yX10_mark ∈ wsL_law0 := mL28 _ (List.mem_of_getElem? (i := 22) rfl)
theorem mw695 : Cond.selects RX10 yX10_mark yX10_mark ∈ wsL_law0 := mL28 _ (List.mem_of_getElem? (i := 23) rfl)
theorem mw696 : Cond.code yX10_mark cX10_mark 3 (some .int) ∈ wsL_law0 := mL29 _ (List.mem_of_getElem? (i := 0) rfl)
theorem mw697 : Cond.fieldLink RX10 150 "ReelChange$House" "towns" "LReelChange$Table;" ∈ wsL_law0 := mL29 _ (List.mem_of_getElem? (i := 1) rfl)
theorem mw698 : Cond.methodLink RX10 153 yX7_markBy ∈ wsL_law0 := mL29 _ (List.mem_of_getElem? (i := 2) rfl)
theorem mw699 : Cond.methodLink RL 45 yX11_mark ∈ wsL_law0 := mL29 _ (List.mem_of_getElem? (i := 3) rfl)
theorem mw700 : Cond.instanceMethod yX11_mark ∈ wsL_law0 := mL29 _ (List.mem_of_getElem? (i := 4) rfl)
theorem mw701 : Cond.selects RX11 yX11_mark yX11_mark ∈ wsL_law0 := mL29 _ (List.mem_of_getElem? (i := 5) rfl)
theorem mw702 : Cond.code yX11_mark cX11_mark 3 (some .int) ∈ wsL_law0 := mL29 _ (List.mem_of_getElem? (i := 6) rfl)
theorem mw703 : Cond.methodLink RX11 342 yX11_markOf ∈ wsL_law0 := mL29 _ (List.mem_of_getElem? (i := 7) rfl)
theorem mw704 : Cond.instanceMethod yX11_markOf ∈ wsL_law0 := mL29 _ (List.mem_of_getElem? (i := 8) rfl)
theorem mw705 : Cond.selects RX11 yX11_markOf yX11_markOf ∈ wsL_law0 := mL29 _ (List.mem_of_getElem? (i := 9) rfl)
theorem mw706 : Cond.code yX11_markOf cX11_markOf 4 (some .int) ∈ wsL_law0 := mL29 _ (List.mem_of_getElem? (i := 10) rfl)
theorem mw707 : Cond.methodLink RL 46 yX10_shows ∈ wsL_law0 := mL29 _ (List.mem_of_getElem? (i := 11) rfl)
theorem mw708 : Cond.instanceMethod yX10_shows ∈ wsL_law0 := mL29 _ (List.mem_of_getElem? (i := 12) rfl)
theorem mw709 : Cond.selects RX10 yX10_shows yX10_shows ∈ wsL_law0 := mL29 _ (List.mem_of_getElem? (i := 13) rfl)
theorem mw710 : Cond.code yX10_shows cX10_shows 2 (some .int) ∈ wsL_law0 := mL29 _ (List.mem_of_getElem? (i := 14) rfl)
theorem mw711 : Cond.methodLink RX10 156 yX10_ofPlace ∈ wsL_law0 := mL29 _ (List.mem_of_getElem? (i := 15) rfl)
theorem mw712 : Cond.instanceMethod yX10_ofPlace ∈ wsL_law0 := mL29 _ (List.mem_of_getElem? (i := 16) rfl)
theorem mw713 : Cond.selects RX10 yX10_ofPlace yX10_ofPlace ∈ wsL_law0 := mL29 _ (List.mem_of_getElem? (i := 17) rfl)
theorem mw714 : Cond.code yX10_ofPlace cX10_ofPlace 3 (some .int) ∈ wsL_law0 := mL29 _ (List.mem_of_getElem? (i := 18) rfl)
theorem mw715 : Cond.methodLink RL 49 yX11_shows ∈ wsL_law0 := mL29 _ (List.mem_of_getElem? (i := 19) rfl)
theorem mw716 : Cond.instanceMethod yX11_shows ∈ wsL_law0 := mL29 _ (List.mem_of_getElem? (i := 20) rfl)
theorem mw717 : Cond.selects RX11 yX11_shows yX11_shows ∈ wsL_law0 := mL29 _ (List.mem_of_getElem? (i := 21) rfl)
theorem mw718 : Cond.code yX11_shows cX11_shows 2 (some .int) ∈ wsL_law0 := mL29 _ (List.mem_of_getElem? (i := 22) rfl)
theorem mw719 : Cond.methodLink RX11 345 yX11_isPlace ∈ wsL_law0 := mL29 _ (List.mem_of_getElem? (i := 23) rfl)
theorem mw720 : Cond.instanceMethod yX11_isPlace ∈ wsL_law0 := mL30 _ (List.mem_of_getElem? (i := 0) rfl)
theorem mw721 : Cond.selects RX11 yX11_isPlace yX11_isPlace ∈ wsL_law0 := mL30 _ (List.mem_of_getElem? (i := 1) rfl)
theorem mw722 : Cond.code yX11_isPlace cX11_isPlace 2 (some .boolean) ∈ wsL_law0 := mL30 _ (List.mem_of_getElem? (i := 2) rfl)
theorem mw723 : Cond.methodLink RX11 324 yX11_reelAt ∈ wsL_law0 := mL30 _ (List.mem_of_getElem? (i := 3) rfl)
theorem mw724 : Cond.instanceMethod yX11_reelAt ∈ wsL_law0 := mL30 _ (List.mem_of_getElem? (i := 4) rfl)
theorem mw725 : Cond.selects RX11 yX11_reelAt yX11_reelAt ∈ wsL_law0 := mL30 _ (List.mem_of_getElem? (i := 5) rfl)
theorem mw726 : Cond.code yX11_reelAt cX11_reelAt 2 (some .int) ∈ wsL_law0 := mL30 _ (List.mem_of_getElem? (i := 6) rfl)
theorem mw727 : Cond.methodLink RL 50 yX10_thread ∈ wsL_law0 := mL30 _ (List.mem_of_getElem? (i := 7) rfl)
theorem mw728 : Cond.instanceMethod yX10_thread ∈ wsL_law0 := mL30 _ (List.mem_of_getElem? (i := 8) rfl)
theorem mw729 : Cond.selects RX10 yX10_thread yX10_thread ∈ wsL_law0 := mL30 _ (List.mem_of_getElem? (i := 9) rfl)
theorem mw730 : Cond.code yX10_thread cX10_thread 2 (some .int) ∈ wsL_law0 := mL30 _ (List.mem_of_getElem? (i := 10) rfl)
theorem mw731 : Cond.methodLink RL 53 yX11_thread ∈ wsL_law0 := mL30 _ (List.mem_of_getElem? (i := 11) rfl)
theorem mw732 : Cond.instanceMethod yX11_thread ∈ wsL_law0 := mL30 _ (List.mem_of_getElem? (i := 12) rfl)
theorem mw733 : Cond.selects RX11 yX11_thread yX11_thread ∈ wsL_law0 := mL30 _ (List.mem_of_getElem? (i := 13) rfl)
theorem mw734 : Cond.code yX11_thread cX11_thread 2 (some .int) ∈ wsL_law0 := mL30 _ (List.mem_of_getElem? (i := 14) rfl)
theorem mw735 : Cond.methodLink RL 54 yX10_believes ∈ wsL_law0 := mL30 _ (List.mem_of_getElem? (i := 15) rfl)
theorem mw736 : Cond.instanceMethod yX10_believes ∈ wsL_law0 := mL30 _ (List.mem_of_getElem? (i := 16) rfl)
theorem mw737 : Cond.selects RX10 yX10_believes yX10_believes ∈ wsL_law0 := mL30 _ (List.mem_of_getElem? (i := 17) rfl)
theorem mw738 : Cond.code yX10_believes cX10_believes 3 (some .int) ∈ wsL_law0 := mL30 _ (List.mem_of_getElem? (i := 18) rfl)
theorem mw739 : Cond.methodLink RX10 159 yX10_ofNight ∈ wsL_law0 := mL30 _ (List.mem_of_getElem? (i := 19) rfl)
theorem mw740 : Cond.instanceMethod yX10_ofNight ∈ wsL_law0 := mL30 _ (List.mem_of_getElem? (i := 20) rfl)
theorem mw741 : Cond.selects RX10 yX10_ofNight yX10_ofNight ∈ wsL_law0 := mL30 _ (List.mem_of_getElem? (i := 21) rfl)
theorem mw742 : Cond.code yX10_ofNight cX10_ofNight 4 (some .int) ∈ wsL_law0 := mL30 _ (List.mem_of_getElem? (i := 22) rfl)
theorem mw743 : Cond.fieldLink RX10 381 "ReelChange$Night" "rows" "LReelChange$Table;" ∈ wsL_law0 := mL30 _ (List.mem_of_getElem? (i := 23) rfl)
theorem mw744 : Cond.methodLink RX10 163 yX10_runNight ∈ wsL_law0 := mL31 _ (List.mem_of_getElem? (i := 0) rfl)
theorem mw745 : Cond.instanceMethod yX10_runNight ∈ wsL_law0 := mL31 _ (List.mem_of_getElem? (i := 1) rfl)
theorem mw746 : Cond.selects RX10 yX10_runNight yX10_runNight ∈ wsL_law0 := mL31 _ (List.mem_of_getElem? (i := 2) rfl)
theorem mw747 : Cond.code yX10_runNight cX10_runNight 2 (some .boolean) ∈ wsL_law0 := mL31 _ (List.mem_of_getElem? (i := 3) rfl)
theorem mw748 : Cond.fieldLink RX10 191 "ReelChange$House" "men" "LReelChange$Table;" ∈ wsL_law0 := mL31 _ (List.mem_of_getElem? (i := 4) rfl)
theorem mw749 : Cond.methodLink RX10 321 yX5_meet ∈ wsL_law0 := mL31 _ (List.mem_of_getElem? (i := 5) rfl)
theorem mw750 : Cond.instanceMethod yX5_meet ∈ wsL_law0 := mL31 _ (List.mem_of_getElem? (i := 6) rfl)
theorem mw751 : Cond.selects RX5 yX5_meet yX5_meet ∈ wsL_law0 := mL31 _ (List.mem_of_getElem? (i := 7) rfl)
theorem mw752 : Cond.code yX5_meet cX5_meet 5 none ∈ wsL_law0 := mL31 _ (List.mem_of_getElem? (i := 8) rfl)
theorem mw753 : Cond.fieldLink RX5 46 "ReelChange$State" "places" "LReelChange$Table;" ∈ wsL_law0 := mL31 _ (List.mem_of_getElem? (i := 9) rfl)
theorem mw754 : Cond.fieldLink RX5 51 "ReelChange$Table" "count" "I" ∈ wsL_law0 := mL31 _ (List.mem_of_getElem? (i := 10) rfl)
theorem mw755 : Cond.fieldLink RX5 54 "ReelChange$House" "men" "LReelChange$Table;" ∈ wsL_law0 := mL31 _ (List.mem_of_getElem? (i := 11) rfl)
theorem mw756 : Cond.methodLink RX5 63 Lib.Math.max.name ∈ wsL_law0 := mL31 _ (List.mem_of_getElem? (i := 12) rfl)
theorem mw757 : Cond.methodLink RX5 59 yX8_at ∈ wsL_law0 := mL31 _ (List.mem_of_getElem? (i := 13) rfl)
theorem mw758 : Cond.methodLink RX5 68 yX7_reelAt ∈ wsL_law0 := mL31 _ (List.mem_of_getElem? (i := 14) rfl)
theorem mw759 : Cond.instanceMethod yX7_reelAt ∈ wsL_law0 := mL31 _ (List.mem_of_getElem? (i := 15) rfl)
theorem mw760 : Cond.selects RX7 yX7_reelAt yX7_reelAt ∈ wsL_law0 := mL31 _ (List.mem_of_getElem? (i := 16) rfl)
theorem mw761 : Cond.code yX7_reelAt cX7_reelAt 2 (some .int) ∈ wsL_law0 := mL31 _ (List.mem_of_getElem? (i := 17) rfl)
theorem mw762 : Cond.methodLink RX5 72 yX7_believedBy ∈ wsL_law0 := mL31 _ (List.mem_of_getElem? (i := 18) rfl)
theorem mw763 : Cond.instanceMethod yX7_believedBy ∈ wsL_law0 := mL31 _ (List.mem_of_getElem? (i := 19) rfl)
theorem mw764 : Cond.selects RX7 yX7_believedBy yX7_believedBy ∈ wsL_law0 := mL31 _ (List.mem_of_getElem? (i := 20) rfl)
theorem mw765 : Cond.code yX7_believedBy cX7_believedBy 8 (some .int) ∈ wsL_law0 := mL31 _ (List.mem_of_getElem? (i := 21) rfl)
theorem mw766 : Cond.methodLink RX5 76 yX8_put ∈ wsL_law0 := mL31 _ (List.mem_of_getElem? (i := 22) rfl)
theorem mw767 : Cond.methodLink RX10 197 yX5_slipBy ∈ wsL_law0 := mL31 _ (List.mem_of_getElem? (i := 23) rfl)
theorem mw768 : Cond.instanceMethod yX5_slipBy ∈ wsL_law0 := mL32 _ (List.mem_of_getElem? (i := 0) rfl)
theorem mw769 : Cond.selects RX5 yX5_slipBy yX5_slipBy ∈ wsL_law0 := mL32 _ (List.mem_of_getElem? (i := 1) rfl)
theorem mw770 : Cond.code yX5_slipBy cX5_slipBy 2 none ∈ wsL_law0 := mL32 _ (List.mem_of_getElem? (i := 2) rfl)
theorem mw771 : Cond.methodLink RX10 200 yX5_run ∈ wsL_law0 := mL32 _ (List.mem_of_getElem? (i := 3) rfl)
theorem mw772 : Cond.instanceMethod yX5_run ∈ wsL_law0 := mL32 _ (List.mem_of_getElem? (i := 4) rfl)
theorem mw773 : Cond.selects RX5 yX5_run yX5_run ∈ wsL_law0 := mL32 _ (List.mem_of_getElem? (i := 5) rfl)
theorem mw774 : Cond.code yX5_run cX5_run 5 none ∈ wsL_law0 := mL32 _ (List.mem_of_getElem? (i := 6) rfl)
theorem mw775 : Cond.fieldLink RX5 80 "ReelChange$State" "reels" "LReelChange$Table;" ∈ wsL_law0 := mL32 _ (List.mem_of_getElem? (i := 7) rfl)
theorem mw776 : Cond.methodLink RX5 83 yX5_goBy ∈ wsL_law0 := mL32 _ (List.mem_of_getElem? (i := 8) rfl)
theorem mw777 : Cond.instanceMethod yX5_goBy ∈ wsL_law0 := mL32 _ (List.mem_of_getElem? (i := 9) rfl)
theorem mw778 : Cond.selects RX5 yX5_goBy yX5_goBy ∈ wsL_law0 := mL32 _ (List.mem_of_getElem? (i := 10) rfl)
theorem mw779 : Cond.code yX5_goBy cX5_goBy 3 none ∈ wsL_law0 := mL32 _ (List.mem_of_getElem? (i := 11) rfl)
theorem mw780 : Cond.methodLink RX5 86 yX5_showReel ∈ wsL_law0 := mL32 _ (List.mem_of_getElem? (i := 12) rfl)
theorem mw781 : Cond.instanceMethod yX5_showReel ∈ wsL_law0 := mL32 _ (List.mem_of_getElem? (i := 13) rfl)
theorem mw782 : Cond.selects RX5 yX5_showReel yX5_showReel ∈ wsL_law0 := mL32 _ (List.mem_of_getElem? (i := 14) rfl)
theorem mw783 : Cond.code yX5_showReel cX5_showReel 11 none ∈ wsL_law0 := mL32 _ (List.mem_of_getElem? (i := 15) rfl)
theorem mw784 : Cond.methodLink RX5 98 Lib.Math.min.name ∈ wsL_law0 := mL32 _ (List.mem_of_getElem? (i := 16) rfl)
theorem mw785 : Cond.static Lib.Math.min.name ∈ wsL_law0 := mL32 _ (List.mem_of_getElem? (i := 17) rfl)
theorem mw786 : Cond.code Lib.Math.min.name Lib.Math.min.code 2 (some .int) ∈ wsL_law0 := mL32 _ (List.mem_of_getElem? (i := 18) rfl)
theorem mw787 : Cond.methodLink RX5 94 yX5_slipNow ∈ wsL_law0 := mL32 _ (List.mem_of_getElem? (i := 19) rfl)
theorem mw788 : Cond.instanceMethod yX5_slipNow ∈ wsL_law0 := mL32 _ (List.mem_of_getElem? (i := 20) rfl)
theorem mw789 : Cond.selects RX5 yX5_slipNow yX5_slipNow ∈ wsL_law0 := mL32 _ (List.mem_of_getElem? (i := 21) rfl)
theorem mw790 : Cond.code yX5_slipNow cX5_slipNow 1 (some .int) ∈ wsL_law0 := mL32 _ (List.mem_of_getElem? (i := 22) rfl)
theorem mw791 : Cond.methodLink RX5 104 yX5_draw ∈ wsL_law0 := mL32 _ (List.mem_of_getElem? (i := 23) rfl)
theorem mw792 : Cond.instanceMethod yX5_draw ∈ wsL_law0 := mL33 _ (List.mem_of_getElem? (i := 0) rfl)
theorem mw793 : Cond.selects RX5 yX5_draw yX5_draw ∈ wsL_law0 := mL33 _ (List.mem_of_getElem? (i := 1) rfl)
theorem mw794 : Cond.code yX5_draw cX5_draw 1 (some .int) ∈ wsL_law0 := mL33 _ (List.mem_of_getElem? (i := 2) rfl)
theorem mw795 : Cond.constant RX5 114 (65537) ∈ wsL_law0 := mL33 _ (List.mem_of_getElem? (i := 3) rfl)
theorem mw796 : Cond.methodLink RX5 101 yX3_number ∈ wsL_law0 := mL33 _ (List.mem_of_getElem? (i := 4) rfl)
theorem mw797 : Cond.methodLink RX5 90 yX5_snapWeakPlaces ∈ wsL_law0 := mL33 _ (List.mem_of_getElem? (i := 5) rfl)
theorem mw798 : Cond.instanceMethod yX5_snapWeakPlaces ∈ wsL_law0 := mL33 _ (List.mem_of_getElem? (i := 6) rfl)
theorem mw799 : Cond.selects RX5 yX5_snapWeakPlaces yX5_snapWeakPlaces ∈ wsL_law0 := mL33 _ (List.mem_of_getElem? (i := 7) rfl)
theorem mw800 : Cond.code yX5_snapWeakPlaces cX5_snapWeakPlaces 5 none ∈ wsL_law0 := mL33 _ (List.mem_of_getElem? (i := 8) rfl)
theorem mw801 : Cond.fieldLink RX5 107 "ReelChange$State" "weaks" "LReelChange$Table;" ∈ wsL_law0 := mL33 _ (List.mem_of_getElem? (i := 9) rfl)
theorem mw802 : Cond.methodLink RX5 110 yX7_isWeak ∈ wsL_law0 := mL33 _ (List.mem_of_getElem? (i := 10) rfl)
theorem mw803 : Cond.methodLink RL 57 yX11_believes ∈ wsL_law0 := mL33 _ (List.mem_of_getElem? (i := 11) rfl)
theorem mw804 : Cond.instanceMethod yX11_believes ∈ wsL_law0 := mL33 _ (List.mem_of_getElem? (i := 12) rfl)
theorem mw805 : Cond.selects RX11 yX11_believes yX11_believes ∈ wsL_law0 := mL33 _ (List.mem_of_getElem? (i := 13) rfl)
theorem mw806 : Cond.code yX11_believes cX11_believes 3 (some .int) ∈ wsL_law0 := mL33 _ (List.mem_of_getElem? (i := 14) rfl)
theorem mw807 : Cond.methodLink RX11 376 yX11_canTell ∈ wsL_law0 := mL33 _ (List.mem_of_getElem? (i := 15) rfl)
theorem mw808 : Cond.instanceMethod yX11_canTell ∈ wsL_law0 := mL33 _ (List.mem_of_getElem? (i := 16) rfl)
theorem mw809 : Cond.selects RX11 yX11_canTell yX11_canTell ∈ wsL_law0 := mL33 _ (List.mem_of_getElem? (i := 17) rfl)
theorem mw810 : Cond.code yX11_canTell cX11_canTell 3 (some .boolean) ∈ wsL_law0 := mL33 _ (List.mem_of_getElem? (i := 18) rfl)
theorem mw811 : Cond.methodLink RX11 370 yX11_isMan ∈ wsL_law0 := mL33 _ (List.mem_of_getElem? (i := 19) rfl)
theorem mw812 : Cond.instanceMethod yX11_isMan ∈ wsL_law0 := mL33 _ (List.mem_of_getElem? (i := 20) rfl)
theorem mw813 : Cond.selects RX11 yX11_isMan yX11_isMan ∈ wsL_law0 := mL33 _ (List.mem_of_getElem? (i := 21) rfl)
theorem mw814 : Cond.code yX11_isMan cX11_isMan 2 (some .boolean) ∈ wsL_law0 := mL33 _ (List.mem_of_getElem? (i := 22) rfl)
theorem mw815 : Cond.methodLink RX11 373 yX11_layTold ∈ wsL_law0 := mL33 _ (List.mem_of_getElem? (i := 23) rfl)
theorem mw816 : Cond.instanceMethod yX11_layTold ∈ wsL_law0 := mL34 _ (List.mem_of_getElem? (i := 0) rfl)
theorem mw817 : Cond.selects RX11 yX11_layTold yX11_layTold ∈ wsL_law0 := mL34 _ (List.mem_of_getElem? (i := 1) rfl)
theorem mw818 : Cond.code yX11_layTold cX11_layTold 3 none ∈ wsL_law0 := mL34 _ (List.mem_of_getElem? (i := 2) rfl)
theorem mw819 : Cond.methodLink RX11 367 yX11_layNight ∈ wsL_law0 := mL34 _ (List.mem_of_getElem? (i := 3) rfl)
theorem mw820 : Cond.instanceMethod yX11_layNight ∈ wsL_law0 := mL34 _ (List.mem_of_getElem? (i := 4) rfl)
theorem mw821 : Cond.selects RX11 yX11_layNight yX11_layNight ∈ wsL_law0 := mL34 _ (List.mem_of_getElem? (i := 5) rfl)
theorem mw822 : Cond.code yX11_layNight cX11_layNight 6 none ∈ wsL_law0 := mL34 _ (List.mem_of_getElem? (i := 6) rfl)
theorem mw823 : Cond.methodLink RX11 354 yX11_framesAt ∈ wsL_law0 := mL34 _ (List.mem_of_getElem? (i := 7) rfl)
theorem mw824 : Cond.instanceMethod yX11_framesAt ∈ wsL_law0 := mL34 _ (List.mem_of_getElem? (i := 8) rfl)
theorem mw825 : Cond.selects RX11 yX11_framesAt yX11_framesAt ∈ wsL_law0 := mL34 _ (List.mem_of_getElem? (i := 9) rfl)
theorem mw826 : Cond.code yX11_framesAt cX11_framesAt 2 (some .int) ∈ wsL_law0 := mL34 _ (List.mem_of_getElem? (i := 10) rfl)
theorem mw827 : Cond.methodLink RX11 357 yX11_isGone ∈ wsL_law0 := mL34 _ (List.mem_of_getElem? (i := 11) rfl)
theorem mw828 : Cond.instanceMethod yX11_isGone ∈ wsL_law0 := mL34 _ (List.mem_of_getElem? (i := 12) rfl)
theorem mw829 : Cond.selects RX11 yX11_isGone yX11_isGone ∈ wsL_law0 := mL34 _ (List.mem_of_getElem? (i := 13) rfl)
theorem mw830 : Cond.code yX11_isGone cX11_isGone 2 (some .boolean) ∈ wsL_law0 := mL34 _ (List.mem_of_getElem? (i := 14) rfl)
theorem mw831 : Cond.methodLink RX11 360 yX11_follows ∈ wsL_law0 := mL34 _ (List.mem_of_getElem? (i := 15) rfl)
theorem mw832 : Cond.instanceMethod yX11_follows ∈ wsL_law0 := mL34 _ (List.mem_of_getElem? (i := 16) rfl)
theorem mw833 : Cond.selects RX11 yX11_follows yX11_follows ∈ wsL_law0 := mL34 _ (List.mem_of_getElem? (i := 17) rfl)
theorem mw834 : Cond.code yX11_follows cX11_follows 7 none ∈ wsL_law0 := mL34 _ (List.mem_of_getElem? (i := 18) rfl)
theorem mw835 : Cond.methodLink RX11 364 yX11_believesOf ∈ wsL_law0 := mL34 _ (List.mem_of_getElem? (i := 19) rfl)
theorem mw836 : Cond.instanceMethod yX11_believesOf ∈ wsL_law0 := mL34 _ (List.mem_of_getElem? (i := 20) rfl)
theorem mw837 : Cond.selects RX11 yX11_believesOf yX11_believesOf ∈ wsL_law0 := mL34 _ (List.mem_of_getElem? (i := 21) rfl)
theorem mw838 : Cond.code yX11_believesOf cX11_believesOf 7 (some .int) ∈ wsL_law0 := mL34 _ (List.mem_of_getElem? (i := 22) rfl)
theorem mw839 : Cond.methodLink RX11 348 yX11_least ∈ wsL_law0 := mL34 _ (List.mem_of_getElem? (i := 23) rfl)
theorem mw840 : Cond.static yX11_least ∈ wsL_law0 := mL35 _ (List.mem_of_getElem? (i := 0) rfl)
theorem mw841 : Cond.code yX11_least cX11_least 2 (some .int) ∈ wsL_law0 := mL35 _ (List.mem_of_getElem? (i := 1) rfl)
theorem mw842 : Cond.methodLink RX11 351 yX11_most ∈ wsL_law0 := mL35 _ (List.mem_of_getElem? (i := 2) rfl)
theorem mw843 : Cond.static yX11_most ∈ wsL_law0 := mL35 _ (List.mem_of_getElem? (i := 3) rfl)
theorem mw844 : Cond.code yX11_most cX11_most 2 (some .int) ∈ wsL_law0 := mL35 _ (List.mem_of_getElem? (i := 4) rfl)
theorem mw845 : Cond.methodLink RL 58 yX10_starts ∈ wsL_law0 := mL35 _ (List.mem_of_getElem? (i := 5) rfl)
theorem mw846 : Cond.instanceMethod yX10_starts ∈ wsL_law0 := mL35 _ (List.mem_of_getElem? (i := 6) rfl)
theorem mw847 : Cond.selects RX10 yX10_starts yX10_starts ∈ wsL_law0 := mL35 _ (List.mem_of_getElem? (i := 7) rfl)
theorem mw848 : Cond.code yX10_starts cX10_starts 3 (some .int) ∈ wsL_law0 := mL35 _ (List.mem_of_getElem? (i := 8) rfl)
theorem mw849 : Cond.methodLink RL 61 yX11_starts ∈ wsL_law0 := mL35 _ (List.mem_of_getElem? (i := 9) rfl)
theorem mw850 : Cond.instanceMethod yX11_starts ∈ wsL_law0 := mL35 _ (List.mem_of_getElem? (i := 10) rfl)
theorem mw851 : Cond.selects RX11 yX11_starts yX11_starts ∈ wsL_law0 := mL35 _ (List.mem_of_getElem? (i := 11) rfl)
theorem mw852 : Cond.code yX11_starts cX11_starts 3 (some .int) ∈ wsL_law0 := mL35 _ (List.mem_of_getElem? (i := 12) rfl)
theorem mw853 : Cond.methodLink RL 62 yX10_changes ∈ wsL_law0 := mL35 _ (List.mem_of_getElem? (i := 13) rfl)
theorem mw854 : Cond.instanceMethod yX10_changes ∈ wsL_law0 := mL35 _ (List.mem_of_getElem? (i := 14) rfl)
theorem mw855 : Cond.selects RX10 yX10_changes yX10_changes ∈ wsL_law0 := mL35 _ (List.mem_of_getElem? (i := 15) rfl)
theorem mw856 : Cond.code yX10_changes cX10_changes 3 (some .int) ∈ wsL_law0 := mL35 _ (List.mem_of_getElem? (i := 16) rfl)
theorem mw857 : Cond.methodLink RL 65 yX11_changes ∈ wsL_law0 := mL35 _ (List.mem_of_getElem? (i := 17) rfl)
theorem mw858 : Cond.instanceMethod yX11_changes ∈ wsL_law0 := mL35 _ (List.mem_of_getElem? (i := 18) rfl)
theorem mw859 : Cond.selects RX11 yX11_changes yX11_changes ∈ wsL_law0 := mL35 _ (List.mem_of_getElem? (i := 19) rfl)
theorem mw860 : Cond.code yX11_changes cX11_changes 3 (some .int) ∈ wsL_law0 := mL35 _ (List.mem_of_getElem? (i := 20) rfl)
theorem mw861 : Cond.methodLink RL 66 yX10_lost ∈ wsL_law0 := mL35 _ (List.mem_of_getElem? (i := 21) rfl)
theorem mw862 : Cond.instanceMethod yX10_lost ∈ wsL_law0 := mL35 _ (List.mem_of_getElem? (i := 22) rfl)
theorem mw863 : Cond.selects RX10 yX10_lost yX10_lost ∈ wsL_law0 := mL35 _ (List.mem_of_getElem? (i := 23) rfl)
theorem mw864 : Cond.code yX10_lost cX10_lost 3 (some .int) ∈ wsL_law0 := mL36 _ (List.mem_of_getElem? (i := 0) rfl)
theorem mw865 : Cond.methodLink RL 69 yX11_lost ∈ wsL_law0 := mL36 _ (List.mem_of_getElem? (i := 1) rfl)
theorem mw866 : Cond.instanceMethod yX11_lost ∈ wsL_law0 := mL36 _ (List.mem_of_getElem? (i := 2) rfl)
theorem mw867 : Cond.selects RX11 yX11_lost yX11_lost ∈ wsL_law0 := mL36 _ (List.mem_of_getElem? (i := 3) rfl)
theorem mw868 : Cond.code yX11_lost cX11_lost 3 (some .int) ∈ wsL_law0 := mL36 _ (List.mem_of_getElem? (i := 4) rfl)
theorem mw869 : Cond.methodLink RL 70 yX10_black ∈ wsL_law0 := mL36 _ (List.mem_of_getElem? (i := 5) rfl)
theorem mw870 : Cond.instanceMethod yX10_black ∈ wsL_law0 := mL36 _ (List.mem_of_getElem? (i := 6) rfl)
theorem mw871 : Cond.selects RX10 yX10_black yX10_black ∈ wsL_law0 := mL36 _ (List.mem_of_getElem? (i := 7) rfl)
theorem mw872 : Cond.code yX10_black cX10_black 3 (some .int) ∈ wsL_law0 := mL36 _ (List.mem_of_getElem? (i := 8) rfl)
theorem mw873 : Cond.methodLink RL 73 yX11_black ∈ wsL_law0 := mL36 _ (List.mem_of_getElem? (i := 9) rfl)
theorem mw874 : Cond.instanceMethod yX11_black ∈ wsL_law0 := mL36 _ (List.mem_of_getElem? (i := 10) rfl)
theorem mw875 : Cond.selects RX11 yX11_black yX11_black ∈ wsL_law0 := mL36 _ (List.mem_of_getElem? (i := 11) rfl)
theorem mw876 : Cond.code yX11_black cX11_black 3 (some .int) ∈ wsL_law0 := mL36 _ (List.mem_of_getElem? (i := 12) rfl)
theorem mw877 : Cond.methodLink RL 74 yX10_tail ∈ wsL_law0 := mL36 _ (List.mem_of_getElem? (i := 13) rfl)
theorem mw878 : Cond.instanceMethod yX10_tail ∈ wsL_law0 := mL36 _ (List.mem_of_getElem? (i := 14) rfl)
theorem mw879 : Cond.selects RX10 yX10_tail yX10_tail ∈ wsL_law0 := mL36 _ (List.mem_of_getElem? (i := 15) rfl)
theorem mw880 : Cond.code yX10_tail cX10_tail 3 (some .int) ∈ wsL_law0 := mL36 _ (List.mem_of_getElem? (i := 16) rfl)
theorem mw881 : Cond.methodLink RL 77 yX11_tail ∈ wsL_law0 := mL36 _ (List.mem_of_getElem? (i := 17) rfl)
theorem mw882 : Cond.instanceMethod yX11_tail ∈ wsL_law0 := mL36 _ (List.mem_of_getElem? (i := 18) rfl)
theorem mw883 : Cond.selects RX11 yX11_tail yX11_tail ∈ wsL_law0 := mL36 _ (List.mem_of_getElem? (i := 19) rfl)
theorem mw884 : Cond.code yX11_tail cX11_tail 3 (some .int) ∈ wsL_law0 := mL36 _ (List.mem_of_getElem? (i := 20) rfl)
theorem mw885 : Cond.methodLink RX11 379 yX11_tailOf ∈ wsL_law0 := mL36 _ (List.mem_of_getElem? (i := 21) rfl)
theorem mw886 : Cond.instanceMethod yX11_tailOf ∈ wsL_law0 := mL36 _ (List.mem_of_getElem? (i := 22) rfl)
theorem mw887 : Cond.selects RX11 yX11_tailOf yX11_tailOf ∈ wsL_law0 := mL36 _ (List.mem_of_getElem? (i := 23) rfl)
theorem mw888 : Cond.code yX11_tailOf cX11_tailOf 2 (some .int) ∈ wsL_law0 := mL37 _ (List.mem_of_getElem? (i := 0) rfl)
theorem mw889 : Cond.methodLink RL 78 yX10_begins ∈ wsL_law0 := mL37 _ (List.mem_of_getElem? (i := 1) rfl)
theorem mw890 : Cond.instanceMethod yX10_begins ∈ wsL_law0 := mL37 _ (List.mem_of_getElem? (i := 2) rfl)
theorem mw891 : Cond.selects RX10 yX10_begins yX10_begins ∈ wsL_law0 := mL37 _ (List.mem_of_getElem? (i := 3) rfl)
theorem mw892 : Cond.code yX10_begins cX10_begins 3 (some .int) ∈ wsL_law0 := mL37 _ (List.mem_of_getElem? (i := 4) rfl)
theorem mw893 : Cond.methodLink RL 81 yX11_begins ∈ wsL_law0 := mL37 _ (List.mem_of_getElem? (i := 5) rfl)
theorem mw894 : Cond.instanceMethod yX11_begins ∈ wsL_law0 := mL37 _ (List.mem_of_getElem? (i := 6) rfl)
theorem mw895 : Cond.selects RX11 yX11_begins yX11_begins ∈ wsL_law0 := mL37 _ (List.mem_of_getElem? (i := 7) rfl)
theorem mw896 : Cond.code yX11_begins cX11_begins 3 (some .int) ∈ wsL_law0 := mL37 _ (List.mem_of_getElem? (i := 8) rfl)
theorem mw897 : Cond.methodLink RL 82 yX10_length ∈ wsL_law0 := mL37 _ (List.mem_of_getElem? (i := 9) rfl)
theorem mw898 : Cond.instanceMethod yX10_length ∈ wsL_law0 := mL37 _ (List.mem_of_getElem? (i := 10) rfl)
theorem mw899 : Cond.selects RX10 yX10_length yX10_length ∈ wsL_law0 := mL37 _ (List.mem_of_getElem? (i := 11) rfl)
theorem mw900 : Cond.code yX10_length cX10_length 2 (some .int) ∈ wsL_law0 := mL37 _ (List.mem_of_getElem? (i := 12) rfl)
theorem mw901 : Cond.methodLink RX10 166 yX5_endTick ∈ wsL_law0 := mL37 _ (List.mem_of_getElem? (i := 13) rfl)
theorem mw902 : Cond.instanceMethod yX5_endTick ∈ wsL_law0 := mL37 _ (List.mem_of_getElem? (i := 14) rfl)
theorem mw903 : Cond.selects RX5 yX5_endTick yX5_endTick ∈ wsL_law0 := mL37 _ (List.mem_of_getElem? (i := 15) rfl)
theorem mw904 : Cond.code yX5_endTick cX5_endTick 1 (some .int) ∈ wsL_law0 := mL37 _ (List.mem_of_getElem? (i := 16) rfl)
theorem mw905 : Cond.methodLink RL 85 yX11_length ∈ wsL_law0 := mL37 _ (List.mem_of_getElem? (i := 17) rfl)
theorem mw906 : Cond.instanceMethod yX11_length ∈ wsL_law0 := mL37 _ (List.mem_of_getElem? (i := 18) rfl)
theorem mw907 : Cond.selects RX11 yX11_length yX11_length ∈ wsL_law0 := mL37 _ (List.mem_of_getElem? (i := 19) rfl)
theorem mw908 : Cond.code yX11_length cX11_length 2 (some .int) ∈ wsL_law0 := mL37 _ (List.mem_of_getElem? (i := 20) rfl)
theorem mw909 : Cond.methodLink RL 86 yX10_all ∈ wsL_law0 := mL37 _ (List.mem_of_getElem? (i := 21) rfl)
theorem mw910 : Cond.instanceMethod yX10_all ∈ wsL_law0 := mL37 _ (List.mem_of_getElem? (i := 22) rfl)
theorem mw911 : Cond.selects RX10 yX10_all yX10_all ∈ wsL_law0 := mL37 _ (List.mem_of_getElem? (i := 23) rfl)
theorem mw912 : Cond.code yX10_all cX10_all 3 (some .int) ∈ wsL_law0 := mL38 _ (List.mem_of_getElem? (i := 0) rfl)
theorem mw913 : Cond.methodLink RX10 170 yX5_sum ∈ wsL_law0 := mL38 _ (List.mem_of_getElem? (i := 1) rfl)
theorem mw914 : Cond.instanceMethod yX5_sum ∈ wsL_law0 := mL38 _ (List.mem_of_getElem? (i := 2) rfl)
theorem mw915 : Cond.selects RX5 yX5_sum yX5_sum ∈ wsL_law0 := mL38 _ (List.mem_of_getElem? (i := 3) rfl)
theorem mw916 : Cond.code yX5_sum cX5_sum 4 (some .int) ∈ wsL_law0 := mL38 _ (List.mem_of_getElem? (i := 4) rfl)
theorem mw917 : Cond.methodLink RL 89 yX11_all ∈ wsL_law0 := mL38 _ (List.mem_of_getElem? (i := 5) rfl)
theorem mw918 : Cond.instanceMethod yX11_all ∈ wsL_law0 := mL38 _ (List.mem_of_getElem? (i := 6) rfl)
theorem mw919 : Cond.selects RX11 yX11_all yX11_all ∈ wsL_law0 := mL38 _ (List.mem_of_getElem? (i := 7) rfl)
theorem mw920 : Cond.code yX11_all cX11_all 3 (some .int) ∈ wsL_law0 := mL38 _ (List.mem_of_getElem? (i := 8) rfl)
theorem mw921 : Cond.methodLink RX11 382 yX11_sumOf ∈ wsL_law0 := mL38 _ (List.mem_of_getElem? (i := 9) rfl)
theorem mw922 : Cond.instanceMethod yX11_sumOf ∈ wsL_law0 := mL38 _ (List.mem_of_getElem? (i := 10) rfl)
theorem mw923 : Cond.selects RX11 yX11_sumOf yX11_sumOf ∈ wsL_law0 := mL38 _ (List.mem_of_getElem? (i := 11) rfl)
theorem mw924 : Cond.code yX11_sumOf cX11_sumOf 4 (some .int) ∈ wsL_law0 := mL38 _ (List.mem_of_getElem? (i := 12) rfl)
theorem mw925 : Cond.methodLink RL 90 yX10_worst ∈ wsL_law0 := mL38 _ (List.mem_of_getElem? (i := 13) rfl)
theorem mw926 : Cond.instanceMethod yX10_worst ∈ wsL_law0 := mL38 _ (List.mem_of_getElem? (i := 14) rfl)
theorem mw927 : Cond.selects RX10 yX10_worst yX10_worst ∈ wsL_law0 := mL38 _ (List.mem_of_getElem? (i := 15) rfl)
theorem mw928 : Cond.code yX10_worst cX10_worst 2 (some .int) ∈ wsL_law0 := mL38 _ (List.mem_of_getElem? (i := 16) rfl)
theorem mw929 : Cond.methodLink RX10 173 yX5_worstChange ∈ wsL_law0 := mL38 _ (List.mem_of_getElem? (i := 17) rfl)
theorem mw930 : Cond.instanceMethod yX5_worstChange ∈ wsL_law0 := mL38 _ (List.mem_of_getElem? (i := 18) rfl)
theorem mw931 : Cond.selects RX5 yX5_worstChange yX5_worstChange ∈ wsL_law0 := mL38 _ (List.mem_of_getElem? (i := 19) rfl)
theorem mw932 : Cond.code yX5_worstChange cX5_worstChange 5 (some .int) ∈ wsL_law0 := mL38 _ (List.mem_of_getElem? (i := 20) rfl)
theorem mw933 : Cond.methodLink RL 93 yX11_worst ∈ wsL_law0 := mL38 _ (List.mem_of_getElem? (i := 21) rfl)
theorem mw934 : Cond.instanceMethod yX11_worst ∈ wsL_law0 := mL38 _ (List.mem_of_getElem? (i := 22) rfl)
theorem mw935 : Cond.selects RX11 yX11_worst yX11_worst ∈ wsL_law0 := mL38 _ (List.mem_of_getElem? (i := 23) rfl)
theorem mw936 : Cond.code yX11_worst cX11_worst 6 (some .int) ∈ wsL_law0 := mL39 _ (List.mem_of_getElem? (i := 0) rfl)
theorem mw937 : Cond.methodLink RL 94 yX10_exact ∈ wsL_law0 := mL39 _ (List.mem_of_getElem? (i := 1) rfl)
theorem mw938 : Cond.instanceMethod yX10_exact ∈ wsL_law0 := mL39 _ (List.mem_of_getElem? (i := 2) rfl)
theorem mw939 : Cond.selects RX10 yX10_exact yX10_exact ∈ wsL_law0 := mL39 _ (List.mem_of_getElem? (i := 3) rfl)
theorem mw940 : Cond.code yX10_exact cX10_exact 3 (some .int) ∈ wsL_law0 := mL39 _ (List.mem_of_getElem? (i := 4) rfl)
theorem mw941 : Cond.methodLink RX10 176 yX5_exactThread ∈ wsL_law0 := mL39 _ (List.mem_of_getElem? (i := 5) rfl)
theorem mw942 : Cond.instanceMethod yX5_exactThread ∈ wsL_law0 := mL39 _ (List.mem_of_getElem? (i := 6) rfl)
theorem mw943 : Cond.selects RX5 yX5_exactThread yX5_exactThread ∈ wsL_law0 := mL39 _ (List.mem_of_getElem? (i := 7) rfl)
theorem mw944 : Cond.code yX5_exactThread cX5_exactThread 4 (some .int) ∈ wsL_law0 := mL39 _ (List.mem_of_getElem? (i := 8) rfl)
theorem mw945 : Cond.methodLink RL 97 yX11_exact ∈ wsL_law0 := mL39 _ (List.mem_of_getElem? (i := 9) rfl)
theorem mw946 : Cond.instanceMethod yX11_exact ∈ wsL_law0 := mL39 _ (List.mem_of_getElem? (i := 10) rfl)
theorem mw947 : Cond.selects RX11 yX11_exact yX11_exact ∈ wsL_law0 := mL39 _ (List.mem_of_getElem? (i := 11) rfl)
theorem mw948 : Cond.code yX11_exact cX11_exact 3 (some .int) ∈ wsL_law0 := mL39 _ (List.mem_of_getElem? (i := 12) rfl)
theorem mw949 : Cond.methodLink RL 98 yX10_signs ∈ wsL_law0 := mL39 _ (List.mem_of_getElem? (i := 13) rfl)
theorem mw950 : Cond.instanceMethod yX10_signs ∈ wsL_law0 := mL39 _ (List.mem_of_getElem? (i := 14) rfl)
theorem mw951 : Cond.selects RX10 yX10_signs yX10_signs ∈ wsL_law0 := mL39 _ (List.mem_of_getElem? (i := 15) rfl)
theorem mw952 : Cond.code yX10_signs cX10_signs 2 (some .int) ∈ wsL_law0 := mL39 _ (List.mem_of_getElem? (i := 16) rfl)
theorem mw953 : Cond.methodLink RX10 180 yX5_signsSo ∈ wsL_law0 := mL39 _ (List.mem_of_getElem? (i := 17) rfl)
theorem mw954 : Cond.instanceMethod yX5_signsSo ∈ wsL_law0 := mL39 _ (List.mem_of_getElem? (i := 18) rfl)
theorem mw955 : Cond.selects RX5 yX5_signsSo yX5_signsSo ∈ wsL_law0 := mL39 _ (List.mem_of_getElem? (i := 19) rfl)
theorem mw956 : Cond.code yX5_signsSo cX5_signsSo 5 (some .int) ∈ wsL_law0 := mL39 _ (List.mem_of_getElem? (i := 20) rfl)
theorem mw957 : Cond.fieldLink RX5 118 "ReelChange$House" "signs" "LReelChange$Table;" ∈ wsL_law0 := mL39 _ (List.mem_of_getElem? (i := 21) rfl)
theorem mw958 : Cond.methodLink RL 101 yX11_signs ∈ wsL_law0 := mL39 _ (List.mem_of_getElem? (i := 22) rfl)
theorem mw959 : Cond.instanceMethod yX11_signs ∈ wsL_law0 := mL39 _ (List.mem_of_getElem? (i := 23) rfl)
theorem mw960 : Cond.selects RX11 yX11_signs yX11_signs ∈ wsL_law0 := mL40 _ (List.mem_of_getElem? (i := 0) rfl)
theorem mw961 : Cond.code yX11_signs cX11_signs 2 (some .int) ∈ wsL_law0 := mL40 _ (List.mem_of_getElem? (i := 1) rfl)
theorem mw962 : Cond.methodLink RX11 422 yX11_signsOf ∈ wsL_law0 := mL40 _ (List.mem_of_getElem? (i := 2) rfl)
theorem mw963 : Cond.instanceMethod yX11_signsOf ∈ wsL_law0 := mL40 _ (List.mem_of_getElem? (i := 3) rfl)
theorem mw964 : Cond.selects RX11 yX11_signsOf yX11_signsOf ∈ wsL_law0 := mL40 _ (List.mem_of_getElem? (i := 4) rfl)
theorem mw965 : Cond.code yX11_signsOf cX11_signsOf 5 (some .int) ∈ wsL_law0 := mL40 _ (List.mem_of_getElem? (i := 5) rfl)
theorem mw966 : Cond.methodLink RL 102 yX10_fits ∈ wsL_law0 := mL40 _ (List.mem_of_getElem? (i := 6) rfl)
theorem mw967 : Cond.instanceMethod yX10_fits ∈ wsL_law0 := mL40 _ (List.mem_of_getElem? (i := 7) rfl)
theorem mw968 : Cond.selects RX10 yX10_fits yX10_fits ∈ wsL_law0 := mL40 _ (List.mem_of_getElem? (i := 8) rfl)
theorem mw969 : Cond.code yX10_fits cX10_fits 4 (some .int) ∈ wsL_law0 := mL40 _ (List.mem_of_getElem? (i := 9) rfl)
theorem mw970 : Cond.fieldLink RX10 188 "ReelChange$House" "signs" "LReelChange$Table;" ∈ wsL_law0 := mL40 _ (List.mem_of_getElem? (i := 10) rfl)
theorem mw971 : Cond.methodLink RX10 184 yX10_isOpen ∈ wsL_law0 := mL40 _ (List.mem_of_getElem? (i := 11) rfl)
theorem mw972 : Cond.instanceMethod yX10_isOpen ∈ wsL_law0 := mL40 _ (List.mem_of_getElem? (i := 12) rfl)
theorem mw973 : Cond.selects RX10 yX10_isOpen yX10_isOpen ∈ wsL_law0 := mL40 _ (List.mem_of_getElem? (i := 13) rfl)
theorem mw974 : Cond.code yX10_isOpen cX10_isOpen 1 (some .boolean) ∈ wsL_law0 := mL40 _ (List.mem_of_getElem? (i := 14) rfl)
theorem mw975 : Cond.methodLink RL 105 yX11_fits ∈ wsL_law0 := mL40 _ (List.mem_of_getElem? (i := 15) rfl)
theorem mw976 : Cond.instanceMethod yX11_fits ∈ wsL_law0 := mL40 _ (List.mem_of_getElem? (i := 16) rfl)
theorem mw977 : Cond.selects RX11 yX11_fits yX11_fits ∈ wsL_law0 := mL40 _ (List.mem_of_getElem? (i := 17) rfl)
theorem mw978 : Cond.code yX11_fits cX11_fits 3 (some .int) ∈ wsL_law0 := mL40 _ (List.mem_of_getElem? (i := 18) rfl)
theorem mw979 : Cond.methodLink RL 106 yX10_bestSlip ∈ wsL_law0 := mL40 _ (List.mem_of_getElem? (i := 19) rfl)
theorem mw980 : Cond.instanceMethod yX10_bestSlip ∈ wsL_law0 := mL40 _ (List.mem_of_getElem? (i := 20) rfl)
theorem mw981 : Cond.selects RX10 yX10_bestSlip yX10_bestSlip ∈ wsL_law0 := mL40 _ (List.mem_of_getElem? (i := 21) rfl)
theorem mw982 : Cond.code yX10_bestSlip cX10_bestSlip 2 (some .int) ∈ wsL_law0 := mL40 _ (List.mem_of_getElem? (i := 22) rfl)
theorem mw983 : Cond.methodLink RX10 194 yX10_leastSlip ∈ wsL_law0 := mL40 _ (List.mem_of_getElem? (i := 23) rfl)
theorem mw984 : Cond.instanceMethod yX10_leastSlip ∈ wsL_law0 := mL41 _ (List.mem_of_getElem? (i := 0) rfl)
theorem mw985 : Cond.selects RX10 yX10_leastSlip yX10_leastSlip ∈ wsL_law0 := mL41 _ (List.mem_of_getElem? (i := 1) rfl)
theorem mw986 : Cond.code yX10_leastSlip cX10_leastSlip 6 (some .int) ∈ wsL_law0 := mL41 _ (List.mem_of_getElem? (i := 2) rfl)
theorem mw987 : Cond.constant RX10 333 (2147483647) ∈ wsL_law0 := mL41 _ (List.mem_of_getElem? (i := 3) rfl)
theorem mw988 : Cond.methodLink RX10 204 yX5_waste ∈ wsL_law0 := mL41 _ (List.mem_of_getElem? (i := 4) rfl)
theorem mw989 : Cond.instanceMethod yX5_waste ∈ wsL_law0 := mL41 _ (List.mem_of_getElem? (i := 5) rfl)
theorem mw990 : Cond.selects RX5 yX5_waste yX5_waste ∈ wsL_law0 := mL41 _ (List.mem_of_getElem? (i := 6) rfl)
theorem mw991 : Cond.code yX5_waste cX5_waste 1 (some .int) ∈ wsL_law0 := mL41 _ (List.mem_of_getElem? (i := 7) rfl)
theorem mw992 : Cond.methodLink RX5 115 yX5_sum ∈ wsL_law0 := mL41 _ (List.mem_of_getElem? (i := 8) rfl)
theorem mw993 : Cond.methodLink RL 109 yX11_bestSlip ∈ wsL_law0 := mL41 _ (List.mem_of_getElem? (i := 9) rfl)
theorem mw994 : Cond.instanceMethod yX11_bestSlip ∈ wsL_law0 := mL41 _ (List.mem_of_getElem? (i := 10) rfl)
theorem mw995 : Cond.selects RX11 yX11_bestSlip yX11_bestSlip ∈ wsL_law0 := mL41 _ (List.mem_of_getElem? (i := 11) rfl)
theorem mw996 : Cond.code yX11_bestSlip cX11_bestSlip 2 (some .int) ∈ wsL_law0 := mL41 _ (List.mem_of_getElem? (i := 12) rfl)
theorem mw997 : Cond.methodLink RX11 428 yX11_bestSlipOf ∈ wsL_law0 := mL41 _ (List.mem_of_getElem? (i := 13) rfl)
theorem mw998 : Cond.instanceMethod yX11_bestSlipOf ∈ wsL_law0 := mL41 _ (List.mem_of_getElem? (i := 14) rfl)
theorem mw999 : Cond.selects RX11 yX11_bestSlipOf yX11_bestSlipOf ∈ wsL_law0 := mL41 _ (List.mem_of_getElem? (i := 15) rfl)
theorem mw1000 : Cond.code yX11_bestSlipOf cX11_bestSlipOf 5 (some .int) ∈ wsL_law0 := mL41 _ (List.mem_of_getElem? (i := 16) rfl)
theorem mw1001 : Cond.fieldLink RX11 425 "ReelChangeModel" "bestSum" "I" ∈ wsL_law0 := mL41 _ (List.mem_of_getElem? (i := 17) rfl)
theorem mw1002 : Cond.methodLink RL 110 yX10_bySlip ∈ wsL_law0 := mL41 _ (List.mem_of_getElem? (i := 18) rfl)
theorem mw1003 : Cond.instanceMethod yX10_bySlip ∈ wsL_law0 := mL41 _ (List.mem_of_getElem? (i := 19) rfl)
theorem mw1004 : Cond.selects RX10 yX10_bySlip yX10_bySlip ∈ wsL_law0 := mL41 _ (List.mem_of_getElem? (i := 20) rfl)
theorem mw1005 : Cond.code yX10_bySlip cX10_bySlip 2 (some .int) ∈ wsL_law0 := mL41 _ (List.mem_of_getElem? (i := 21) rfl)
theorem mw1006 : Cond.methodLink RL 113 yX11_bySlip ∈ wsL_law0 := mL41 _ (List.mem_of_getElem? (i := 22) rfl)
theorem mw1007 : Cond.instanceMethod yX11_bySlip ∈ wsL_law0 := mL41 _ (List.mem_of_getElem? (i := 23) rfl)
theorem mw1008 : Cond.selects RX11 yX11_bySlip yX11_bySlip ∈ wsL_law0 := mL42 _ (List.mem_of_getElem? (i := 0) rfl)
theorem mw1009 : Cond.code yX11_bySlip cX11_bySlip 2 (some .int) ∈ wsL_law0 := mL42 _ (List.mem_of_getElem? (i := 1) rfl)
theorem mw1010 : Cond.methodLink RL 114 yX10_needs ∈ wsL_law0 := mL42 _ (List.mem_of_getElem? (i := 2) rfl)
theorem mw1011 : Cond.instanceMethod yX10_needs ∈ wsL_law0 := mL42 _ (List.mem_of_getElem? (i := 3) rfl)
theorem mw1012 : Cond.selects RX10 yX10_needs yX10_needs ∈ wsL_law0 := mL42 _ (List.mem_of_getElem? (i := 4) rfl)
theorem mw1013 : Cond.code yX10_needs cX10_needs 3 (some .int) ∈ wsL_law0 := mL42 _ (List.mem_of_getElem? (i := 5) rfl)
theorem mw1014 : Cond.methodLink RX10 207 yX5_needed ∈ wsL_law0 := mL42 _ (List.mem_of_getElem? (i := 6) rfl)
theorem mw1015 : Cond.instanceMethod yX5_needed ∈ wsL_law0 := mL42 _ (List.mem_of_getElem? (i := 7) rfl)
theorem mw1016 : Cond.selects RX5 yX5_needed yX5_needed ∈ wsL_law0 := mL42 _ (List.mem_of_getElem? (i := 8) rfl)
theorem mw1017 : Cond.code yX5_needed cX5_needed 2 (some .int) ∈ wsL_law0 := mL42 _ (List.mem_of_getElem? (i := 9) rfl)
theorem mw1018 : Cond.methodLink RL 117 yX11_needs ∈ wsL_law0 := mL42 _ (List.mem_of_getElem? (i := 10) rfl)
theorem mw1019 : Cond.instanceMethod yX11_needs ∈ wsL_law0 := mL42 _ (List.mem_of_getElem? (i := 11) rfl)
theorem mw1020 : Cond.selects RX11 yX11_needs yX11_needs ∈ wsL_law0 := mL42 _ (List.mem_of_getElem? (i := 12) rfl)
theorem mw1021 : Cond.code yX11_needs cX11_needs 3 (some .int) ∈ wsL_law0 := mL42 _ (List.mem_of_getElem? (i := 13) rfl)
theorem mw1022 : Cond.methodLink RX11 388 yX11_needsOf ∈ wsL_law0 := mL42 _ (List.mem_of_getElem? (i := 14) rfl)
theorem mw1023 : Cond.instanceMethod yX11_needsOf ∈ wsL_law0 := mL42 _ (List.mem_of_getElem? (i := 15) rfl)
theorem mw1024 : Cond.selects RX11 yX11_needsOf yX11_needsOf ∈ wsL_law0 := mL42 _ (List.mem_of_getElem? (i := 16) rfl)
theorem mw1025 : Cond.code yX11_needsOf cX11_needsOf 2 (some .int) ∈ wsL_law0 := mL42 _ (List.mem_of_getElem? (i := 17) rfl)
theorem mw1026 : Cond.methodLink RL 118 yX10_dies ∈ wsL_law0 := mL42 _ (List.mem_of_getElem? (i := 18) rfl)
theorem mw1027 : Cond.instanceMethod yX10_dies ∈ wsL_law0 := mL42 _ (List.mem_of_getElem? (i := 19) rfl)
theorem mw1028 : Cond.selects RX10 yX10_dies yX10_dies ∈ wsL_law0 := mL42 _ (List.mem_of_getElem? (i := 20) rfl)
theorem mw1029 : Cond.code yX10_dies cX10_dies 3 (some .int) ∈ wsL_law0 := mL42 _ (List.mem_of_getElem? (i := 21) rfl)
theorem mw1030 : Cond.fieldLink RX10 210 "ReelChange$State" "trims" "I" ∈ wsL_law0 := mL42 _ (List.mem_of_getElem? (i := 22) rfl)
theorem mw1031 : Cond.fieldLink RX10 217 "ReelChange$Arcs" "dying" "I" ∈ wsL_law0 := mL42 _ (List.mem_of_getElem? (i := 23) rfl)
theorem mw1032 : Cond.methodLink RX10 213 yX0_burn ∈ wsL_law0 := mL43 _ (List.mem_of_getElem? (i := 0) rfl)
theorem mw1033 : Cond.instanceMethod yX0_burn ∈ wsL_law0 := mL43 _ (List.mem_of_getElem? (i := 1) rfl)
theorem mw1034 : Cond.selects RX0 yX0_burn yX0_burn ∈ wsL_law0 := mL43 _ (List.mem_of_getElem? (i := 2) rfl)
theorem mw1035 : Cond.code yX0_burn cX0_burn 9 none ∈ wsL_law0 := mL43 _ (List.mem_of_getElem? (i := 3) rfl)
theorem mw1036 : Cond.fieldLink RX0 30 "ReelChange$Night" "rows" "LReelChange$Table;" ∈ wsL_law0 := mL43 _ (List.mem_of_getElem? (i := 4) rfl)
theorem mw1037 : Cond.fieldLink RX0 35 "ReelChange$Table" "count" "I" ∈ wsL_law0 := mL43 _ (List.mem_of_getElem? (i := 5) rfl)
theorem mw1038 : Cond.methodLink RX0 24 yX3_number ∈ wsL_law0 := mL43 _ (List.mem_of_getElem? (i := 6) rfl)
theorem mw1039 : Cond.methodLink RX0 38 yX8_at ∈ wsL_law0 := mL43 _ (List.mem_of_getElem? (i := 7) rfl)
theorem mw1040 : Cond.methodLink RX0 42 yX5_idle ∈ wsL_law0 := mL43 _ (List.mem_of_getElem? (i := 8) rfl)
theorem mw1041 : Cond.instanceMethod yX5_idle ∈ wsL_law0 := mL43 _ (List.mem_of_getElem? (i := 9) rfl)
theorem mw1042 : Cond.selects RX5 yX5_idle yX5_idle ∈ wsL_law0 := mL43 _ (List.mem_of_getElem? (i := 10) rfl)
theorem mw1043 : Cond.code yX5_idle cX5_idle 2 (some .int) ∈ wsL_law0 := mL43 _ (List.mem_of_getElem? (i := 11) rfl)
theorem mw1044 : Cond.methodLink RX0 45 yX5_needed ∈ wsL_law0 := mL43 _ (List.mem_of_getElem? (i := 12) rfl)
theorem mw1045 : Cond.methodLink RX0 48 yX8_put ∈ wsL_law0 := mL43 _ (List.mem_of_getElem? (i := 13) rfl)
theorem mw1046 : Cond.methodLink RL 121 yX11_dies ∈ wsL_law0 := mL43 _ (List.mem_of_getElem? (i := 14) rfl)
theorem mw1047 : Cond.instanceMethod yX11_dies ∈ wsL_law0 := mL43 _ (List.mem_of_getElem? (i := 15) rfl)
theorem mw1048 : Cond.selects RX11 yX11_dies yX11_dies ∈ wsL_law0 := mL43 _ (List.mem_of_getElem? (i := 16) rfl)
theorem mw1049 : Cond.code yX11_dies cX11_dies 3 (some .int) ∈ wsL_law0 := mL43 _ (List.mem_of_getElem? (i := 17) rfl)
theorem mw1050 : Cond.methodLink RX11 391 yX11_burn ∈ wsL_law0 := mL43 _ (List.mem_of_getElem? (i := 18) rfl)
theorem mw1051 : Cond.instanceMethod yX11_burn ∈ wsL_law0 := mL43 _ (List.mem_of_getElem? (i := 19) rfl)
theorem mw1052 : Cond.selects RX11 yX11_burn yX11_burn ∈ wsL_law0 := mL43 _ (List.mem_of_getElem? (i := 20) rfl)
theorem mw1053 : Cond.code yX11_burn cX11_burn 6 (some .boolean) ∈ wsL_law0 := mL43 _ (List.mem_of_getElem? (i := 21) rfl)
theorem mw1054 : Cond.methodLink RX11 385 yX11_freeOf ∈ wsL_law0 := mL43 _ (List.mem_of_getElem? (i := 22) rfl)
theorem mw1055 : Cond.instanceMethod yX11_freeOf ∈ wsL_law0 := mL43 _ (List.mem_of_getElem? (i := 23) rfl)
theorem mw1056 : Cond.selects RX11 yX11_freeOf yX11_freeOf ∈ wsL_law0 := mL44 _ (List.mem_of_getElem? (i := 0) rfl)
theorem mw1057 : Cond.code yX11_freeOf cX11_freeOf 2 (some .int) ∈ wsL_law0 := mL44 _ (List.mem_of_getElem? (i := 1) rfl)
theorem mw1058 : Cond.methodLink RL 122 yX10_firstDies ∈ wsL_law0 := mL44 _ (List.mem_of_getElem? (i := 2) rfl)
theorem mw1059 : Cond.instanceMethod yX10_firstDies ∈ wsL_law0 := mL44 _ (List.mem_of_getElem? (i := 3) rfl)
theorem mw1060 : Cond.selects RX10 yX10_firstDies yX10_firstDies ∈ wsL_law0 := mL44 _ (List.mem_of_getElem? (i := 4) rfl)
theorem mw1061 : Cond.code yX10_firstDies cX10_firstDies 2 (some .int) ∈ wsL_law0 := mL44 _ (List.mem_of_getElem? (i := 5) rfl)
theorem mw1062 : Cond.methodLink RX10 220 yX0_firstDying ∈ wsL_law0 := mL44 _ (List.mem_of_getElem? (i := 6) rfl)
theorem mw1063 : Cond.instanceMethod yX0_firstDying ∈ wsL_law0 := mL44 _ (List.mem_of_getElem? (i := 7) rfl)
theorem mw1064 : Cond.selects RX0 yX0_firstDying yX0_firstDying ∈ wsL_law0 := mL44 _ (List.mem_of_getElem? (i := 8) rfl)
theorem mw1065 : Cond.code yX0_firstDying cX0_firstDying 2 (some .int) ∈ wsL_law0 := mL44 _ (List.mem_of_getElem? (i := 9) rfl)
theorem mw1066 : Cond.fieldLink RX0 52 "ReelChange$Table" "room" "I" ∈ wsL_law0 := mL44 _ (List.mem_of_getElem? (i := 10) rfl)
theorem mw1067 : Cond.methodLink RL 125 yX11_firstDies ∈ wsL_law0 := mL44 _ (List.mem_of_getElem? (i := 11) rfl)
theorem mw1068 : Cond.instanceMethod yX11_firstDies ∈ wsL_law0 := mL44 _ (List.mem_of_getElem? (i := 12) rfl)
theorem mw1069 : Cond.selects RX11 yX11_firstDies yX11_firstDies ∈ wsL_law0 := mL44 _ (List.mem_of_getElem? (i := 13) rfl)
theorem mw1070 : Cond.code yX11_firstDies cX11_firstDies 3 (some .int) ∈ wsL_law0 := mL44 _ (List.mem_of_getElem? (i := 14) rfl)
theorem mw1071 : Cond.methodLink RL 126 yX10_free ∈ wsL_law0 := mL44 _ (List.mem_of_getElem? (i := 15) rfl)
theorem mw1072 : Cond.instanceMethod yX10_free ∈ wsL_law0 := mL44 _ (List.mem_of_getElem? (i := 16) rfl)
theorem mw1073 : Cond.selects RX10 yX10_free yX10_free ∈ wsL_law0 := mL44 _ (List.mem_of_getElem? (i := 17) rfl)
theorem mw1074 : Cond.code yX10_free cX10_free 3 (some .int) ∈ wsL_law0 := mL44 _ (List.mem_of_getElem? (i := 18) rfl)
theorem mw1075 : Cond.methodLink RX10 223 yX5_idle ∈ wsL_law0 := mL44 _ (List.mem_of_getElem? (i := 19) rfl)
theorem mw1076 : Cond.methodLink RL 129 yX11_free ∈ wsL_law0 := mL44 _ (List.mem_of_getElem? (i := 20) rfl)
theorem mw1077 : Cond.instanceMethod yX11_free ∈ wsL_law0 := mL44 _ (List.mem_of_getElem? (i := 21) rfl)
theorem mw1078 : Cond.selects RX11 yX11_free yX11_free ∈ wsL_law0 := mL44 _ (List.mem_of_getElem? (i := 22) rfl)
theorem mw1079 : Cond.code yX11_free cX11_free 3 (some .int) ∈ wsL_law0 := mL44 _ (List.mem_of_getElem? (i := 23) rfl)
theorem mw1080 : Cond.methodLink RL 130 yX10_arc ∈ wsL_law0 := mL45 _ (List.mem_of_getElem? (i := 0) rfl)
theorem mw1081 : Cond.instanceMethod yX10_arc ∈ wsL_law0 := mL45 _ (List.mem_of_getElem? (i := 1) rfl)
theorem mw1082 : Cond.selects RX10 yX10_arc yX10_arc ∈ wsL_law0 := mL45 _ (List.mem_of_getElem? (i := 2) rfl)
theorem mw1083 : Cond.code yX10_arc cX10_arc 3 (some .int) ∈ wsL_law0 := mL45 _ (List.mem_of_getElem? (i := 3) rfl)
theorem mw1084 : Cond.fieldLink RX10 226 "ReelChange$Arcs" "left" "LReelChange$Table;" ∈ wsL_law0 := mL45 _ (List.mem_of_getElem? (i := 4) rfl)
theorem mw1085 : Cond.methodLink RL 133 yX11_arc ∈ wsL_law0 := mL45 _ (List.mem_of_getElem? (i := 5) rfl)
theorem mw1086 : Cond.instanceMethod yX11_arc ∈ wsL_law0 := mL45 _ (List.mem_of_getElem? (i := 6) rfl)
theorem mw1087 : Cond.selects RX11 yX11_arc yX11_arc ∈ wsL_law0 := mL45 _ (List.mem_of_getElem? (i := 7) rfl)
theorem mw1088 : Cond.code yX11_arc cX11_arc 3 (some .int) ∈ wsL_law0 := mL45 _ (List.mem_of_getElem? (i := 8) rfl)
theorem mw1089 : Cond.methodLink RL 134 yX10_never ∈ wsL_law0 := mL45 _ (List.mem_of_getElem? (i := 9) rfl)
theorem mw1090 : Cond.instanceMethod yX10_never ∈ wsL_law0 := mL45 _ (List.mem_of_getElem? (i := 10) rfl)
theorem mw1091 : Cond.selects RX10 yX10_never yX10_never ∈ wsL_law0 := mL45 _ (List.mem_of_getElem? (i := 11) rfl)
theorem mw1092 : Cond.code yX10_never cX10_never 2 (some .int) ∈ wsL_law0 := mL45 _ (List.mem_of_getElem? (i := 12) rfl)
theorem mw1093 : Cond.methodLink RX10 229 yX0_fewestTrims ∈ wsL_law0 := mL45 _ (List.mem_of_getElem? (i := 13) rfl)
theorem mw1094 : Cond.instanceMethod yX0_fewestTrims ∈ wsL_law0 := mL45 _ (List.mem_of_getElem? (i := 14) rfl)
theorem mw1095 : Cond.selects RX0 yX0_fewestTrims yX0_fewestTrims ∈ wsL_law0 := mL45 _ (List.mem_of_getElem? (i := 15) rfl)
theorem mw1096 : Cond.code yX0_fewestTrims cX0_fewestTrims 6 (some .int) ∈ wsL_law0 := mL45 _ (List.mem_of_getElem? (i := 16) rfl)
theorem mw1097 : Cond.constant RX0 57 (2147483647) ∈ wsL_law0 := mL45 _ (List.mem_of_getElem? (i := 17) rfl)
theorem mw1098 : Cond.methodLink RX0 58 yJ6_bitCount_0f7a4 ∈ wsL_law0 := mL45 _ (List.mem_of_getElem? (i := 18) rfl)
theorem mw1099 : Cond.static yJ6_bitCount_0f7a4 ∈ wsL_law0 := mL45 _ (List.mem_of_getElem? (i := 19) rfl)
theorem mw1100 : Cond.initialized RJ6 ∈ wsL_law0 := mL45 _ (List.mem_of_getElem? (i := 20) rfl)
theorem mw1101 : Cond.code yJ6_bitCount_0f7a4 cJ6_bitCount_0f7a4 1 (some .int) ∈ wsL_law0 := mL45 _ (List.mem_of_getElem? (i := 21) rfl)
theorem mw1102 : Cond.constant RJ6 265 (1431655765) ∈ wsL_law0 := mL45 _ (List.mem_of_getElem? (i := 22) rfl)
theorem mw1103 : Cond.constant RJ6 266 (858993459) ∈ wsL_law0 := mL45 _ (List.mem_of_getElem? (i := 23) rfl)
theorem mw1104 : Cond.constant RJ6 267 (252645135) ∈ wsL_law0 := mL46 _ (List.mem_of_getElem? (i := 0) rfl)
theorem mw1105 : Cond.methodLink RX0 61 yX0_burn ∈ wsL_law0 := mL46 _ (List.mem_of_getElem? (i := 1) rfl)
theorem mw1106 : Cond.methodLink RL 137 yX11_never ∈ wsL_law0 := mL46 _ (List.mem_of_getElem? (i := 2) rfl)
theorem mw1107 : Cond.instanceMethod yX11_never ∈ wsL_law0 := mL46 _ (List.mem_of_getElem? (i := 3) rfl)
theorem mw1108 : Cond.selects RX11 yX11_never yX11_never ∈ wsL_law0 := mL46 _ (List.mem_of_getElem? (i := 4) rfl)
theorem mw1109 : Cond.code yX11_never cX11_never 4 (some .int) ∈ wsL_law0 := mL46 _ (List.mem_of_getElem? (i := 5) rfl)
theorem mw1110 : Cond.methodLink RX11 394 yX11_ones ∈ wsL_law0 := mL46 _ (List.mem_of_getElem? (i := 6) rfl)
theorem mw1111 : Cond.static yX11_ones ∈ wsL_law0 := mL46 _ (List.mem_of_getElem? (i := 7) rfl)
theorem mw1112 : Cond.code yX11_ones cX11_ones 3 (some .int) ∈ wsL_law0 := mL46 _ (List.mem_of_getElem? (i := 8) rfl)
theorem mw1113 : Cond.methodLink RL 138 yX10_truly ∈ wsL_law0 := mL46 _ (List.mem_of_getElem? (i := 9) rfl)
theorem mw1114 : Cond.instanceMethod yX10_truly ∈ wsL_law0 := mL46 _ (List.mem_of_getElem? (i := 10) rfl)
theorem mw1115 : Cond.selects RX10 yX10_truly yX10_truly ∈ wsL_law0 := mL46 _ (List.mem_of_getElem? (i := 11) rfl)
theorem mw1116 : Cond.code yX10_truly cX10_truly 4 (some .long) ∈ wsL_law0 := mL46 _ (List.mem_of_getElem? (i := 12) rfl)
theorem mw1117 : Cond.methodLink RX10 233 yX7_isMeantPerhaps ∈ wsL_law0 := mL46 _ (List.mem_of_getElem? (i := 13) rfl)
theorem mw1118 : Cond.instanceMethod yX7_isMeantPerhaps ∈ wsL_law0 := mL46 _ (List.mem_of_getElem? (i := 14) rfl)
theorem mw1119 : Cond.selects RX7 yX7_isMeantPerhaps yX7_isMeantPerhaps ∈ wsL_law0 := mL46 _ (List.mem_of_getElem? (i := 15) rfl)
theorem mw1120 : Cond.code yX7_isMeantPerhaps cX7_isMeantPerhaps 3 (some .boolean) ∈ wsL_law0 := mL46 _ (List.mem_of_getElem? (i := 16) rfl)
theorem mw1121 : Cond.methodLink RX7 57 yX7_isMarked ∈ wsL_law0 := mL46 _ (List.mem_of_getElem? (i := 17) rfl)
theorem mw1122 : Cond.instanceMethod yX7_isMarked ∈ wsL_law0 := mL46 _ (List.mem_of_getElem? (i := 18) rfl)
theorem mw1123 : Cond.selects RX7 yX7_isMarked yX7_isMarked ∈ wsL_law0 := mL46 _ (List.mem_of_getElem? (i := 19) rfl)
theorem mw1124 : Cond.code yX7_isMarked cX7_isMarked 5 (some .boolean) ∈ wsL_law0 := mL46 _ (List.mem_of_getElem? (i := 20) rfl)
theorem mw1125 : Cond.methodLink RX10 237 yX7_weight ∈ wsL_law0 := mL46 _ (List.mem_of_getElem? (i := 21) rfl)
theorem mw1126 : Cond.instanceMethod yX7_weight ∈ wsL_law0 := mL46 _ (List.mem_of_getElem? (i := 22) rfl)
theorem mw1127 : Cond.selects RX7 yX7_weight yX7_weight ∈ wsL_law0 := mL46 _ (List.mem_of_getElem? (i := 23) rfl)
theorem mw1128 : Cond.code yX7_weight cX7_weight 7 (some .int) ∈ wsL_law0 := mL47 _ (List.mem_of_getElem? (i := 0) rfl)
theorem mw1129 : Cond.methodLink RX7 61 Lib.Math.abs.name ∈ wsL_law0 := mL47 _ (List.mem_of_getElem? (i := 1) rfl)
theorem mw1130 : Cond.static Lib.Math.abs.name ∈ wsL_law0 := mL47 _ (List.mem_of_getElem? (i := 2) rfl)
theorem mw1131 : Cond.code Lib.Math.abs.name Lib.Math.abs.code 1 (some .int) ∈ wsL_law0 := mL47 _ (List.mem_of_getElem? (i := 3) rfl)
theorem mw1132 : Cond.methodLink RX10 241 yX7_allWeights ∈ wsL_law0 := mL47 _ (List.mem_of_getElem? (i := 4) rfl)
theorem mw1133 : Cond.instanceMethod yX7_allWeights ∈ wsL_law0 := mL47 _ (List.mem_of_getElem? (i := 5) rfl)
theorem mw1134 : Cond.selects RX7 yX7_allWeights yX7_allWeights ∈ wsL_law0 := mL47 _ (List.mem_of_getElem? (i := 6) rfl)
theorem mw1135 : Cond.code yX7_allWeights cX7_allWeights 6 (some .int) ∈ wsL_law0 := mL47 _ (List.mem_of_getElem? (i := 7) rfl)
theorem mw1136 : Cond.methodLink RX7 67 yX7_weight ∈ wsL_law0 := mL47 _ (List.mem_of_getElem? (i := 8) rfl)
theorem mw1137 : Cond.methodLink RX10 245 yX2_set ∈ wsL_law0 := mL47 _ (List.mem_of_getElem? (i := 9) rfl)
theorem mw1138 : Cond.instanceMethod yX2_set ∈ wsL_law0 := mL47 _ (List.mem_of_getElem? (i := 10) rfl)
theorem mw1139 : Cond.selects RX2 yX2_set yX2_set ∈ wsL_law0 := mL47 _ (List.mem_of_getElem? (i := 11) rfl)
theorem mw1140 : Cond.code yX2_set cX2_set 5 none ∈ wsL_law0 := mL47 _ (List.mem_of_getElem? (i := 12) rfl)
theorem mw1141 : Cond.methodLink RX10 249 yX10_tellPart ∈ wsL_law0 := mL47 _ (List.mem_of_getElem? (i := 13) rfl)
theorem mw1142 : Cond.instanceMethod yX10_tellPart ∈ wsL_law0 := mL47 _ (List.mem_of_getElem? (i := 14) rfl)
theorem mw1143 : Cond.selects RX10 yX10_tellPart yX10_tellPart ∈ wsL_law0 := mL47 _ (List.mem_of_getElem? (i := 15) rfl)
theorem mw1144 : Cond.code yX10_tellPart cX10_tellPart 2 (some .long) ∈ wsL_law0 := mL47 _ (List.mem_of_getElem? (i := 16) rfl)
theorem mw1145 : Cond.fieldLink RX10 280 "ReelChange$Fraction" "lower" "J" ∈ wsL_law0 := mL47 _ (List.mem_of_getElem? (i := 17) rfl)
theorem mw1146 : Cond.fieldLink RX10 284 "ReelChange$Fraction" "upper" "J" ∈ wsL_law0 := mL47 _ (List.mem_of_getElem? (i := 18) rfl)
theorem mw1147 : Cond.methodLink RX10 378 yX2_reduce ∈ wsL_law0 := mL47 _ (List.mem_of_getElem? (i := 19) rfl)
theorem mw1148 : Cond.instanceMethod yX2_reduce ∈ wsL_law0 := mL47 _ (List.mem_of_getElem? (i := 20) rfl)
theorem mw1149 : Cond.selects RX2 yX2_reduce yX2_reduce ∈ wsL_law0 := mL47 _ (List.mem_of_getElem? (i := 21) rfl)
theorem mw1150 : Cond.code yX2_reduce cX2_reduce 8 none ∈ wsL_law0 := mL47 _ (List.mem_of_getElem? (i := 22) rfl)
theorem mw1151 : Cond.methodLink RL 142 yX11_truly ∈ wsL_law0 := mL47 _ (List.mem_of_getElem? (i := 23) rfl)
theorem mw1152 : Cond.instanceMethod yX11_truly ∈ wsL_law0 := mL48 _ (List.mem_of_getElem? (i := 0) rfl)
theorem mw1153 : Cond.selects RX11 yX11_truly yX11_truly ∈ wsL_law0 := mL48 _ (List.mem_of_getElem? (i := 1) rfl)
theorem mw1154 : Cond.code yX11_truly cX11_truly 4 (some .long) ∈ wsL_law0 := mL48 _ (List.mem_of_getElem? (i := 2) rfl)
theorem mw1155 : Cond.methodLink RX11 397 yX11_isDot ∈ wsL_law0 := mL48 _ (List.mem_of_getElem? (i := 3) rfl)
theorem mw1156 : Cond.instanceMethod yX11_isDot ∈ wsL_law0 := mL48 _ (List.mem_of_getElem? (i := 4) rfl)
theorem mw1157 : Cond.selects RX11 yX11_isDot yX11_isDot ∈ wsL_law0 := mL48 _ (List.mem_of_getElem? (i := 5) rfl)
theorem mw1158 : Cond.code yX11_isDot cX11_isDot 5 (some .boolean) ∈ wsL_law0 := mL48 _ (List.mem_of_getElem? (i := 6) rfl)
theorem mw1159 : Cond.methodLink RX11 400 yX11_weightOf ∈ wsL_law0 := mL48 _ (List.mem_of_getElem? (i := 7) rfl)
theorem mw1160 : Cond.instanceMethod yX11_weightOf ∈ wsL_law0 := mL48 _ (List.mem_of_getElem? (i := 8) rfl)
theorem mw1161 : Cond.selects RX11 yX11_weightOf yX11_weightOf ∈ wsL_law0 := mL48 _ (List.mem_of_getElem? (i := 9) rfl)
theorem mw1162 : Cond.code yX11_weightOf cX11_weightOf 7 (some .long) ∈ wsL_law0 := mL48 _ (List.mem_of_getElem? (i := 10) rfl)
theorem mw1163 : Cond.methodLink RX11 404 yX11_allWeights ∈ wsL_law0 := mL48 _ (List.mem_of_getElem? (i := 11) rfl)
theorem mw1164 : Cond.instanceMethod yX11_allWeights ∈ wsL_law0 := mL48 _ (List.mem_of_getElem? (i := 12) rfl)
theorem mw1165 : Cond.selects RX11 yX11_allWeights yX11_allWeights ∈ wsL_law0 := mL48 _ (List.mem_of_getElem? (i := 13) rfl)
theorem mw1166 : Cond.code yX11_allWeights cX11_allWeights 5 (some .long) ∈ wsL_law0 := mL48 _ (List.mem_of_getElem? (i := 14) rfl)
theorem mw1167 : Cond.methodLink RX11 408 yX11_lowest ∈ wsL_law0 := mL48 _ (List.mem_of_getElem? (i := 15) rfl)
theorem mw1168 : Cond.static yX11_lowest ∈ wsL_law0 := mL48 _ (List.mem_of_getElem? (i := 16) rfl)
theorem mw1169 : Cond.code yX11_lowest cX11_lowest 11 (some .long) ∈ wsL_law0 := mL48 _ (List.mem_of_getElem? (i := 17) rfl)
theorem mw1170 : Cond.methodLink RL 143 yX10_likeliest ∈ wsL_law0 := mL48 _ (List.mem_of_getElem? (i := 18) rfl)
theorem mw1171 : Cond.instanceMethod yX10_likeliest ∈ wsL_law0 := mL48 _ (List.mem_of_getElem? (i := 19) rfl)
theorem mw1172 : Cond.selects RX10 yX10_likeliest yX10_likeliest ∈ wsL_law0 := mL48 _ (List.mem_of_getElem? (i := 20) rfl)
theorem mw1173 : Cond.code yX10_likeliest cX10_likeliest 2 (some .int) ∈ wsL_law0 := mL48 _ (List.mem_of_getElem? (i := 21) rfl)
theorem mw1174 : Cond.methodLink RX10 253 yX7_likeliestFrame ∈ wsL_law0 := mL48 _ (List.mem_of_getElem? (i := 22) rfl)
theorem mw1175 : Cond.instanceMethod yX7_likeliestFrame ∈ wsL_law0 := mL48 _ (List.mem_of_getElem? (i := 23) rfl)
theorem mw1176 : Cond.selects RX7 yX7_likeliestFrame yX7_likeliestFrame ∈ wsL_law0 := mL49 _ (List.mem_of_getElem? (i := 0) rfl)
theorem mw1177 : Cond.code yX7_likeliestFrame cX7_likeliestFrame 8 (some .int) ∈ wsL_law0 := mL49 _ (List.mem_of_getElem? (i := 1) rfl)
theorem mw1178 : Cond.methodLink RL 146 yX11_likeliest ∈ wsL_law0 := mL49 _ (List.mem_of_getElem? (i := 2) rfl)
theorem mw1179 : Cond.instanceMethod yX11_likeliest ∈ wsL_law0 := mL49 _ (List.mem_of_getElem? (i := 3) rfl)
theorem mw1180 : Cond.selects RX11 yX11_likeliest yX11_likeliest ∈ wsL_law0 := mL49 _ (List.mem_of_getElem? (i := 4) rfl)
theorem mw1181 : Cond.code yX11_likeliest cX11_likeliest 4 (some .int) ∈ wsL_law0 := mL49 _ (List.mem_of_getElem? (i := 5) rfl)
theorem mw1182 : Cond.methodLink RL 147 yX10_who ∈ wsL_law0 := mL49 _ (List.mem_of_getElem? (i := 6) rfl)
theorem mw1183 : Cond.instanceMethod yX10_who ∈ wsL_law0 := mL49 _ (List.mem_of_getElem? (i := 7) rfl)
theorem mw1184 : Cond.selects RX10 yX10_who yX10_who ∈ wsL_law0 := mL49 _ (List.mem_of_getElem? (i := 8) rfl)
theorem mw1185 : Cond.code yX10_who cX10_who 3 (some .int) ∈ wsL_law0 := mL49 _ (List.mem_of_getElem? (i := 9) rfl)
theorem mw1186 : Cond.fieldLink RX10 256 "ReelChange$House" "scratches" "LReelChange$Table;" ∈ wsL_law0 := mL49 _ (List.mem_of_getElem? (i := 10) rfl)
theorem mw1187 : Cond.methodLink RX10 259 yX10_nearestMark ∈ wsL_law0 := mL49 _ (List.mem_of_getElem? (i := 11) rfl)
theorem mw1188 : Cond.instanceMethod yX10_nearestMark ∈ wsL_law0 := mL49 _ (List.mem_of_getElem? (i := 12) rfl)
theorem mw1189 : Cond.selects RX10 yX10_nearestMark yX10_nearestMark ∈ wsL_law0 := mL49 _ (List.mem_of_getElem? (i := 13) rfl)
theorem mw1190 : Cond.code yX10_nearestMark cX10_nearestMark 5 (some .int) ∈ wsL_law0 := mL49 _ (List.mem_of_getElem? (i := 14) rfl)
theorem mw1191 : Cond.methodLink RX10 262 yX10_farFrom ∈ wsL_law0 := mL49 _ (List.mem_of_getElem? (i := 15) rfl)
theorem mw1192 : Cond.instanceMethod yX10_farFrom ∈ wsL_law0 := mL49 _ (List.mem_of_getElem? (i := 16) rfl)
theorem mw1193 : Cond.selects RX10 yX10_farFrom yX10_farFrom ∈ wsL_law0 := mL49 _ (List.mem_of_getElem? (i := 17) rfl)
theorem mw1194 : Cond.code yX10_farFrom cX10_farFrom 5 (some .int) ∈ wsL_law0 := mL49 _ (List.mem_of_getElem? (i := 18) rfl)
theorem mw1195 : Cond.methodLink RX10 384 Lib.Math.abs.name ∈ wsL_law0 := mL49 _ (List.mem_of_getElem? (i := 19) rfl)
theorem mw1196 : Cond.methodLink RL 150 yX11_who ∈ wsL_law0 := mL49 _ (List.mem_of_getElem? (i := 20) rfl)
theorem mw1197 : Cond.instanceMethod yX11_who ∈ wsL_law0 := mL49 _ (List.mem_of_getElem? (i := 21) rfl)
theorem mw1198 : Cond.selects RX11 yX11_who yX11_who ∈ wsL_law0 := mL49 _ (List.mem_of_getElem? (i := 22) rfl)
theorem mw1199 : Cond.code yX11_who cX11_who 2 (some .int) ∈ wsL_law0 := mL49 _ (List.mem_of_getElem? (i := 23) rfl)
theorem mw1200 : Cond.fieldLink RX11 434 "ReelChangeModel" "nearestTown" "I" ∈ wsL_law0 := mL50 _ (List.mem_of_getElem? (i := 0) rfl)
theorem mw1201 : Cond.methodLink RX11 440 yX11_layScratch ∈ wsL_law0 := mL50 _ (List.mem_of_getElem? (i := 1) rfl)
theorem mw1202 : Cond.instanceMethod yX11_layScratch ∈ wsL_law0 := mL50 _ (List.mem_of_getElem? (i := 2) rfl)
theorem mw1203 : Cond.selects RX11 yX11_layScratch yX11_layScratch ∈ wsL_law0 := mL50 _ (List.mem_of_getElem? (i := 3) rfl)
theorem mw1204 : Cond.code yX11_layScratch cX11_layScratch 4 (some .boolean) ∈ wsL_law0 := mL50 _ (List.mem_of_getElem? (i := 4) rfl)
theorem mw1205 : Cond.fieldLink RX11 431 "ReelChangeModel" "nearest" "I" ∈ wsL_law0 := mL50 _ (List.mem_of_getElem? (i := 5) rfl)
theorem mw1206 : Cond.methodLink RX11 437 yX11_farOf ∈ wsL_law0 := mL50 _ (List.mem_of_getElem? (i := 6) rfl)
theorem mw1207 : Cond.instanceMethod yX11_farOf ∈ wsL_law0 := mL50 _ (List.mem_of_getElem? (i := 7) rfl)
theorem mw1208 : Cond.selects RX11 yX11_farOf yX11_farOf ∈ wsL_law0 := mL50 _ (List.mem_of_getElem? (i := 8) rfl)
theorem mw1209 : Cond.code yX11_farOf cX11_farOf 8 (some .int) ∈ wsL_law0 := mL50 _ (List.mem_of_getElem? (i := 9) rfl)
theorem mw1210 : Cond.methodLink RL 151 yX10_far ∈ wsL_law0 := mL50 _ (List.mem_of_getElem? (i := 10) rfl)
theorem mw1211 : Cond.instanceMethod yX10_far ∈ wsL_law0 := mL50 _ (List.mem_of_getElem? (i := 11) rfl)
theorem mw1212 : Cond.selects RX10 yX10_far yX10_far ∈ wsL_law0 := mL50 _ (List.mem_of_getElem? (i := 12) rfl)
theorem mw1213 : Cond.code yX10_far cX10_far 3 (some .int) ∈ wsL_law0 := mL50 _ (List.mem_of_getElem? (i := 13) rfl)
theorem mw1214 : Cond.methodLink RL 154 yX11_far ∈ wsL_law0 := mL50 _ (List.mem_of_getElem? (i := 14) rfl)
theorem mw1215 : Cond.instanceMethod yX11_far ∈ wsL_law0 := mL50 _ (List.mem_of_getElem? (i := 15) rfl)
theorem mw1216 : Cond.selects RX11 yX11_far yX11_far ∈ wsL_law0 := mL50 _ (List.mem_of_getElem? (i := 16) rfl)
theorem mw1217 : Cond.code yX11_far cX11_far 2 (some .int) ∈ wsL_law0 := mL50 _ (List.mem_of_getElem? (i := 17) rfl)
theorem mw1218 : Cond.methodLink RL 155 yX10_missing ∈ wsL_law0 := mL50 _ (List.mem_of_getElem? (i := 18) rfl)
theorem mw1219 : Cond.instanceMethod yX10_missing ∈ wsL_law0 := mL50 _ (List.mem_of_getElem? (i := 19) rfl)
theorem mw1220 : Cond.selects RX10 yX10_missing yX10_missing ∈ wsL_law0 := mL50 _ (List.mem_of_getElem? (i := 20) rfl)
theorem mw1221 : Cond.code yX10_missing cX10_missing 4 (some .int) ∈ wsL_law0 := mL50 _ (List.mem_of_getElem? (i := 21) rfl)
theorem mw1222 : Cond.methodLink RX10 268 Lib.Math.max.name ∈ wsL_law0 := mL50 _ (List.mem_of_getElem? (i := 22) rfl)
theorem mw1223 : Cond.methodLink RX10 265 yX10_lackedBy ∈ wsL_law0 := mL50 _ (List.mem_of_getElem? (i := 23) rfl)
theorem mw1224 : Cond.instanceMethod yX10_lackedBy ∈ wsL_law0 := mL51 _ (List.mem_of_getElem? (i := 0) rfl)
theorem mw1225 : Cond.selects RX10 yX10_lackedBy yX10_lackedBy ∈ wsL_law0 := mL51 _ (List.mem_of_getElem? (i := 1) rfl)
theorem mw1226 : Cond.code yX10_lackedBy cX10_lackedBy 4 (some .int) ∈ wsL_law0 := mL51 _ (List.mem_of_getElem? (i := 2) rfl)
theorem mw1227 : Cond.methodLink RL 159 yX11_missing ∈ wsL_law0 := mL51 _ (List.mem_of_getElem? (i := 3) rfl)
theorem mw1228 : Cond.instanceMethod yX11_missing ∈ wsL_law0 := mL51 _ (List.mem_of_getElem? (i := 4) rfl)
theorem mw1229 : Cond.selects RX11 yX11_missing yX11_missing ∈ wsL_law0 := mL51 _ (List.mem_of_getElem? (i := 5) rfl)
theorem mw1230 : Cond.code yX11_missing cX11_missing 5 (some .int) ∈ wsL_law0 := mL51 _ (List.mem_of_getElem? (i := 6) rfl)
theorem mw1231 : Cond.methodLink RL 160 yX10_words ∈ wsL_law0 := mL51 _ (List.mem_of_getElem? (i := 7) rfl)
theorem mw1232 : Cond.instanceMethod yX10_words ∈ wsL_law0 := mL51 _ (List.mem_of_getElem? (i := 8) rfl)
theorem mw1233 : Cond.selects RX10 yX10_words yX10_words ∈ wsL_law0 := mL51 _ (List.mem_of_getElem? (i := 9) rfl)
theorem mw1234 : Cond.code yX10_words cX10_words 4 (some .int) ∈ wsL_law0 := mL51 _ (List.mem_of_getElem? (i := 10) rfl)
theorem mw1235 : Cond.methodLink RL 163 yX11_words ∈ wsL_law0 := mL51 _ (List.mem_of_getElem? (i := 11) rfl)
theorem mw1236 : Cond.instanceMethod yX11_words ∈ wsL_law0 := mL51 _ (List.mem_of_getElem? (i := 12) rfl)
theorem mw1237 : Cond.selects RX11 yX11_words yX11_words ∈ wsL_law0 := mL51 _ (List.mem_of_getElem? (i := 13) rfl)
theorem mw1238 : Cond.code yX11_words cX11_words 4 (some .int) ∈ wsL_law0 := mL51 _ (List.mem_of_getElem? (i := 14) rfl)
theorem mw1239 : Cond.methodLink RL 164 yX10_holds ∈ wsL_law0 := mL51 _ (List.mem_of_getElem? (i := 15) rfl)
theorem mw1240 : Cond.instanceMethod yX10_holds ∈ wsL_law0 := mL51 _ (List.mem_of_getElem? (i := 16) rfl)
theorem mw1241 : Cond.selects RX10 yX10_holds yX10_holds ∈ wsL_law0 := mL51 _ (List.mem_of_getElem? (i := 17) rfl)
theorem mw1242 : Cond.code yX10_holds cX10_holds 4 (some .long) ∈ wsL_law0 := mL51 _ (List.mem_of_getElem? (i := 18) rfl)
theorem mw1243 : Cond.methodLink RX10 273 yX7_isWeak ∈ wsL_law0 := mL51 _ (List.mem_of_getElem? (i := 19) rfl)
theorem mw1244 : Cond.methodLink RX10 276 yX2_setPower ∈ wsL_law0 := mL51 _ (List.mem_of_getElem? (i := 20) rfl)
theorem mw1245 : Cond.instanceMethod yX2_setPower ∈ wsL_law0 := mL51 _ (List.mem_of_getElem? (i := 21) rfl)
theorem mw1246 : Cond.selects RX2 yX2_setPower yX2_setPower ∈ wsL_law0 := mL51 _ (List.mem_of_getElem? (i := 22) rfl)
theorem mw1247 : Cond.code yX2_setPower cX2_setPower 5 none ∈ wsL_law0 := mL51 _ (List.mem_of_getElem? (i := 23) rfl)
theorem mw1248 : Cond.methodLink RL 167 yX11_holds ∈ wsL_law0 := mL52 _ (List.mem_of_getElem? (i := 0) rfl)
theorem mw1249 : Cond.instanceMethod yX11_holds ∈ wsL_law0 := mL52 _ (List.mem_of_getElem? (i := 1) rfl)
theorem mw1250 : Cond.selects RX11 yX11_holds yX11_holds ∈ wsL_law0 := mL52 _ (List.mem_of_getElem? (i := 2) rfl)
theorem mw1251 : Cond.code yX11_holds cX11_holds 4 (some .long) ∈ wsL_law0 := mL52 _ (List.mem_of_getElem? (i := 3) rfl)
theorem mw1252 : Cond.methodLink RX11 412 yX11_isWeak ∈ wsL_law0 := mL52 _ (List.mem_of_getElem? (i := 4) rfl)
theorem mw1253 : Cond.instanceMethod yX11_isWeak ∈ wsL_law0 := mL52 _ (List.mem_of_getElem? (i := 5) rfl)
theorem mw1254 : Cond.selects RX11 yX11_isWeak yX11_isWeak ∈ wsL_law0 := mL52 _ (List.mem_of_getElem? (i := 6) rfl)
theorem mw1255 : Cond.code yX11_isWeak cX11_isWeak 2 (some .boolean) ∈ wsL_law0 := mL52 _ (List.mem_of_getElem? (i := 7) rfl)
theorem mw1256 : Cond.methodLink RX11 415 yX11_power ∈ wsL_law0 := mL52 _ (List.mem_of_getElem? (i := 8) rfl)
theorem mw1257 : Cond.static yX11_power ∈ wsL_law0 := mL52 _ (List.mem_of_getElem? (i := 9) rfl)
theorem mw1258 : Cond.code yX11_power cX11_power 5 (some .long) ∈ wsL_law0 := mL52 _ (List.mem_of_getElem? (i := 10) rfl)
theorem mw1259 : Cond.methodLink RL 168 yX10_pays ∈ wsL_law0 := mL52 _ (List.mem_of_getElem? (i := 11) rfl)
theorem mw1260 : Cond.instanceMethod yX10_pays ∈ wsL_law0 := mL52 _ (List.mem_of_getElem? (i := 12) rfl)
theorem mw1261 : Cond.selects RX10 yX10_pays yX10_pays ∈ wsL_law0 := mL52 _ (List.mem_of_getElem? (i := 13) rfl)
theorem mw1262 : Cond.code yX10_pays cX10_pays 5 (some .int) ∈ wsL_law0 := mL52 _ (List.mem_of_getElem? (i := 14) rfl)
theorem mw1263 : Cond.constantLong RX10 290 (2) ∈ wsL_law0 := mL52 _ (List.mem_of_getElem? (i := 15) rfl)
theorem mw1264 : Cond.methodLink RX10 287 yX3_number ∈ wsL_law0 := mL52 _ (List.mem_of_getElem? (i := 16) rfl)
theorem mw1265 : Cond.methodLink RL 171 yX11_pays ∈ wsL_law0 := mL52 _ (List.mem_of_getElem? (i := 17) rfl)
theorem mw1266 : Cond.instanceMethod yX11_pays ∈ wsL_law0 := mL52 _ (List.mem_of_getElem? (i := 18) rfl)
theorem mw1267 : Cond.selects RX11 yX11_pays yX11_pays ∈ wsL_law0 := mL52 _ (List.mem_of_getElem? (i := 19) rfl)
theorem mw1268 : Cond.code yX11_pays cX11_pays 5 (some .int) ∈ wsL_law0 := mL52 _ (List.mem_of_getElem? (i := 20) rfl)
theorem mw1269 : Cond.constantLong RX11 418 (2) ∈ wsL_law0 := mL52 _ (List.mem_of_getElem? (i := 21) rfl)
theorem mw1270 : Cond.methodLink RL 172 yX10_wears ∈ wsL_law0 := mL52 _ (List.mem_of_getElem? (i := 22) rfl)
theorem mw1271 : Cond.instanceMethod yX10_wears ∈ wsL_law0 := mL52 _ (List.mem_of_getElem? (i := 23) rfl)
theorem mw1272 : Cond.selects RX10 yX10_wears yX10_wears ∈ wsL_law0 := mL53 _ (List.mem_of_getElem? (i := 0) rfl)
theorem mw1273 : Cond.code yX10_wears cX10_wears 6 (some .long) ∈ wsL_law0 := mL53 _ (List.mem_of_getElem? (i := 1) rfl)
theorem mw1274 : Cond.constantLong RX10 292 (100) ∈ wsL_law0 := mL53 _ (List.mem_of_getElem? (i := 2) rfl)
theorem mw1275 : Cond.methodLink RL 175 yX11_wears ∈ wsL_law0 := mL53 _ (List.mem_of_getElem? (i := 3) rfl)
theorem mw1276 : Cond.instanceMethod yX11_wears ∈ wsL_law0 := mL53 _ (List.mem_of_getElem? (i := 4) rfl)
theorem mw1277 : Cond.selects RX11 yX11_wears yX11_wears ∈ wsL_law0 := mL53 _ (List.mem_of_getElem? (i := 5) rfl)
theorem mw1278 : Cond.code yX11_wears cX11_wears 7 (some .long) ∈ wsL_law0 := mL53 _ (List.mem_of_getElem? (i := 6) rfl)
theorem mw1279 : Cond.constantLong RX11 420 (100) ∈ wsL_law0 := mL53 _ (List.mem_of_getElem? (i := 7) rfl)
theorem mw1280 : Cond.methodLink RL 176 yX10_apart ∈ wsL_law0 := mL53 _ (List.mem_of_getElem? (i := 8) rfl)
theorem mw1281 : Cond.instanceMethod yX10_apart ∈ wsL_law0 := mL53 _ (List.mem_of_getElem? (i := 9) rfl)
theorem mw1282 : Cond.selects RX10 yX10_apart yX10_apart ∈ wsL_law0 := mL53 _ (List.mem_of_getElem? (i := 10) rfl)
theorem mw1283 : Cond.code yX10_apart cX10_apart 4 (some .int) ∈ wsL_law0 := mL53 _ (List.mem_of_getElem? (i := 11) rfl)
theorem mw1284 : Cond.methodLink RX10 294 yX10_rideTrouble ∈ wsL_law0 := mL53 _ (List.mem_of_getElem? (i := 12) rfl)
theorem mw1285 : Cond.instanceMethod yX10_rideTrouble ∈ wsL_law0 := mL53 _ (List.mem_of_getElem? (i := 13) rfl)
theorem mw1286 : Cond.selects RX10 yX10_rideTrouble yX10_rideTrouble ∈ wsL_law0 := mL53 _ (List.mem_of_getElem? (i := 14) rfl)
theorem mw1287 : Cond.code yX10_rideTrouble cX10_rideTrouble 4 (some .int) ∈ wsL_law0 := mL53 _ (List.mem_of_getElem? (i := 15) rfl)
theorem mw1288 : Cond.fieldLink RX10 303 "ReelChange$House" "boys" "LReelChange$Table;" ∈ wsL_law0 := mL53 _ (List.mem_of_getElem? (i := 16) rfl)
theorem mw1289 : Cond.methodLink RX10 297 yX10_boysMeant ∈ wsL_law0 := mL53 _ (List.mem_of_getElem? (i := 17) rfl)
theorem mw1290 : Cond.instanceMethod yX10_boysMeant ∈ wsL_law0 := mL53 _ (List.mem_of_getElem? (i := 18) rfl)
theorem mw1291 : Cond.selects RX10 yX10_boysMeant yX10_boysMeant ∈ wsL_law0 := mL53 _ (List.mem_of_getElem? (i := 19) rfl)
theorem mw1292 : Cond.code yX10_boysMeant cX10_boysMeant 2 (some .int) ∈ wsL_law0 := mL53 _ (List.mem_of_getElem? (i := 20) rfl)
theorem mw1293 : Cond.methodLink RX10 300 yX10_apartBy ∈ wsL_law0 := mL53 _ (List.mem_of_getElem? (i := 21) rfl)
theorem mw1294 : Cond.instanceMethod yX10_apartBy ∈ wsL_law0 := mL53 _ (List.mem_of_getElem? (i := 22) rfl)
theorem mw1295 : Cond.selects RX10 yX10_apartBy yX10_apartBy ∈ wsL_law0 := mL53 _ (List.mem_of_getElem? (i := 23) rfl)
theorem mw1296 : Cond.code yX10_apartBy cX10_apartBy 2 (some .int) ∈ wsL_law0 := mL54 _ (List.mem_of_getElem? (i := 0) rfl)
theorem mw1297 : Cond.fieldLink RX10 387 "ReelChange$Riders" "apartNeeded" "I" ∈ wsL_law0 := mL54 _ (List.mem_of_getElem? (i := 1) rfl)
theorem mw1298 : Cond.methodLink RX10 306 yX6_carry ∈ wsL_law0 := mL54 _ (List.mem_of_getElem? (i := 2) rfl)
theorem mw1299 : Cond.instanceMethod yX6_carry ∈ wsL_law0 := mL54 _ (List.mem_of_getElem? (i := 3) rfl)
theorem mw1300 : Cond.selects RX6 yX6_carry yX6_carry ∈ wsL_law0 := mL54 _ (List.mem_of_getElem? (i := 4) rfl)
theorem mw1301 : Cond.code yX6_carry cX6_carry 10 none ∈ wsL_law0 := mL54 _ (List.mem_of_getElem? (i := 5) rfl)
theorem mw1302 : Cond.fieldLink RX6 31 "ReelChange$Night" "rows" "LReelChange$Table;" ∈ wsL_law0 := mL54 _ (List.mem_of_getElem? (i := 6) rfl)
theorem mw1303 : Cond.fieldLink RX6 36 "ReelChange$Table" "count" "I" ∈ wsL_law0 := mL54 _ (List.mem_of_getElem? (i := 7) rfl)
theorem mw1304 : Cond.methodLink RX6 47 Lib.Math.max.name ∈ wsL_law0 := mL54 _ (List.mem_of_getElem? (i := 8) rfl)
theorem mw1305 : Cond.methodLink RX6 27 yX8_put ∈ wsL_law0 := mL54 _ (List.mem_of_getElem? (i := 9) rfl)
theorem mw1306 : Cond.methodLink RX6 39 yX6_soonestBack ∈ wsL_law0 := mL54 _ (List.mem_of_getElem? (i := 10) rfl)
theorem mw1307 : Cond.instanceMethod yX6_soonestBack ∈ wsL_law0 := mL54 _ (List.mem_of_getElem? (i := 11) rfl)
theorem mw1308 : Cond.selects RX6 yX6_soonestBack yX6_soonestBack ∈ wsL_law0 := mL54 _ (List.mem_of_getElem? (i := 12) rfl)
theorem mw1309 : Cond.code yX6_soonestBack cX6_soonestBack 4 (some .int) ∈ wsL_law0 := mL54 _ (List.mem_of_getElem? (i := 13) rfl)
theorem mw1310 : Cond.methodLink RX6 43 yX8_at ∈ wsL_law0 := mL54 _ (List.mem_of_getElem? (i := 14) rfl)
theorem mw1311 : Cond.methodLink RL 179 yX11_apart ∈ wsL_law0 := mL54 _ (List.mem_of_getElem? (i := 15) rfl)
theorem mw1312 : Cond.instanceMethod yX11_apart ∈ wsL_law0 := mL54 _ (List.mem_of_getElem? (i := 16) rfl)
theorem mw1313 : Cond.selects RX11 yX11_apart yX11_apart ∈ wsL_law0 := mL54 _ (List.mem_of_getElem? (i := 17) rfl)
theorem mw1314 : Cond.code yX11_apart cX11_apart 4 (some .int) ∈ wsL_law0 := mL54 _ (List.mem_of_getElem? (i := 18) rfl)
theorem mw1315 : Cond.methodLink RX11 446 yX11_boyWhy ∈ wsL_law0 := mL54 _ (List.mem_of_getElem? (i := 19) rfl)
theorem mw1316 : Cond.instanceMethod yX11_boyWhy ∈ wsL_law0 := mL54 _ (List.mem_of_getElem? (i := 20) rfl)
theorem mw1317 : Cond.selects RX11 yX11_boyWhy yX11_boyWhy ∈ wsL_law0 := mL54 _ (List.mem_of_getElem? (i := 21) rfl)
theorem mw1318 : Cond.code yX11_boyWhy cX11_boyWhy 2 (some .int) ∈ wsL_law0 := mL54 _ (List.mem_of_getElem? (i := 22) rfl)
theorem mw1319 : Cond.methodLink RX11 449 yX11_apartOf ∈ wsL_law0 := mL54 _ (List.mem_of_getElem? (i := 23) rfl)
theorem mw1320 : Cond.instanceMethod yX11_apartOf ∈ wsL_law0 := mL55 _ (List.mem_of_getElem? (i := 0) rfl)
theorem mw1321 : Cond.selects RX11 yX11_apartOf yX11_apartOf ∈ wsL_law0 := mL55 _ (List.mem_of_getElem? (i := 1) rfl)
theorem mw1322 : Cond.code yX11_apartOf cX11_apartOf 5 (some .int) ∈ wsL_law0 := mL55 _ (List.mem_of_getElem? (i := 2) rfl)
theorem mw1323 : Cond.methodLink RX11 443 yX11_carry ∈ wsL_law0 := mL55 _ (List.mem_of_getElem? (i := 3) rfl)
theorem mw1324 : Cond.instanceMethod yX11_carry ∈ wsL_law0 := mL55 _ (List.mem_of_getElem? (i := 4) rfl)
theorem mw1325 : Cond.selects RX11 yX11_carry yX11_carry ∈ wsL_law0 := mL55 _ (List.mem_of_getElem? (i := 5) rfl)
theorem mw1326 : Cond.code yX11_carry cX11_carry 6 none ∈ wsL_law0 := mL55 _ (List.mem_of_getElem? (i := 6) rfl)
theorem mw1327 : Cond.methodLink RL 180 yX10_waits ∈ wsL_law0 := mL55 _ (List.mem_of_getElem? (i := 7) rfl)
theorem mw1328 : Cond.instanceMethod yX10_waits ∈ wsL_law0 := mL55 _ (List.mem_of_getElem? (i := 8) rfl)
theorem mw1329 : Cond.selects RX10 yX10_waits yX10_waits ∈ wsL_law0 := mL55 _ (List.mem_of_getElem? (i := 9) rfl)
theorem mw1330 : Cond.code yX10_waits cX10_waits 5 (some .int) ∈ wsL_law0 := mL55 _ (List.mem_of_getElem? (i := 10) rfl)
theorem mw1331 : Cond.fieldLink RX10 310 "ReelChange$Riders" "waited" "I" ∈ wsL_law0 := mL55 _ (List.mem_of_getElem? (i := 11) rfl)
theorem mw1332 : Cond.methodLink RL 184 yX11_waits ∈ wsL_law0 := mL55 _ (List.mem_of_getElem? (i := 12) rfl)
theorem mw1333 : Cond.instanceMethod yX11_waits ∈ wsL_law0 := mL55 _ (List.mem_of_getElem? (i := 13) rfl)
theorem mw1334 : Cond.selects RX11 yX11_waits yX11_waits ∈ wsL_law0 := mL55 _ (List.mem_of_getElem? (i := 14) rfl)
theorem mw1335 : Cond.code yX11_waits cX11_waits 9 (some .int) ∈ wsL_law0 := mL55 _ (List.mem_of_getElem? (i := 15) rfl)
theorem mw1336 : Cond.methodLink RL 185 yX10_boys ∈ wsL_law0 := mL55 _ (List.mem_of_getElem? (i := 16) rfl)
theorem mw1337 : Cond.instanceMethod yX10_boys ∈ wsL_law0 := mL55 _ (List.mem_of_getElem? (i := 17) rfl)
theorem mw1338 : Cond.selects RX10 yX10_boys yX10_boys ∈ wsL_law0 := mL55 _ (List.mem_of_getElem? (i := 18) rfl)
theorem mw1339 : Cond.code yX10_boys cX10_boys 5 (some .int) ∈ wsL_law0 := mL55 _ (List.mem_of_getElem? (i := 19) rfl)
theorem mw1340 : Cond.methodLink RL 188 yX11_boys ∈ wsL_law0 := mL55 _ (List.mem_of_getElem? (i := 20) rfl)
theorem mw1341 : Cond.instanceMethod yX11_boys ∈ wsL_law0 := mL55 _ (List.mem_of_getElem? (i := 21) rfl)
theorem mw1342 : Cond.selects RX11 yX11_boys yX11_boys ∈ wsL_law0 := mL55 _ (List.mem_of_getElem? (i := 22) rfl)
theorem mw1343 : Cond.code yX11_boys cX11_boys 5 (some .int) ∈ wsL_law0 := mL55 _ (List.mem_of_getElem? (i := 23) rfl)
theorem mw1344 : Cond.methodLink RL 189 yX10_well ∈ wsL_law0 := mL56 _ (List.mem_of_getElem? (i := 0) rfl)
theorem mw1345 : Cond.instanceMethod yX10_well ∈ wsL_law0 := mL56 _ (List.mem_of_getElem? (i := 1) rfl)
theorem mw1346 : Cond.selects RX10 yX10_well yX10_well ∈ wsL_law0 := mL56 _ (List.mem_of_getElem? (i := 2) rfl)
theorem mw1347 : Cond.code yX10_well cX10_well 2 (some .long) ∈ wsL_law0 := mL56 _ (List.mem_of_getElem? (i := 3) rfl)
theorem mw1348 : Cond.methodLink RL 193 yX11_well ∈ wsL_law0 := mL56 _ (List.mem_of_getElem? (i := 4) rfl)
theorem mw1349 : Cond.instanceMethod yX11_well ∈ wsL_law0 := mL56 _ (List.mem_of_getElem? (i := 5) rfl)
theorem mw1350 : Cond.selects RX11 yX11_well yX11_well ∈ wsL_law0 := mL56 _ (List.mem_of_getElem? (i := 6) rfl)
theorem mw1351 : Cond.code yX11_well cX11_well 2 (some .long) ∈ wsL_law0 := mL56 _ (List.mem_of_getElem? (i := 7) rfl)
theorem mw1352 : Cond.methodLink RL 194 yX10_wrong ∈ wsL_law0 := mL56 _ (List.mem_of_getElem? (i := 8) rfl)
theorem mw1353 : Cond.instanceMethod yX10_wrong ∈ wsL_law0 := mL56 _ (List.mem_of_getElem? (i := 9) rfl)
theorem mw1354 : Cond.selects RX10 yX10_wrong yX10_wrong ∈ wsL_law0 := mL56 _ (List.mem_of_getElem? (i := 10) rfl)
theorem mw1355 : Cond.code yX10_wrong cX10_wrong 1 (some .int) ∈ wsL_law0 := mL56 _ (List.mem_of_getElem? (i := 11) rfl)
theorem mw1356 : Cond.methodLink RX10 313 yX1_wrongPlaces ∈ wsL_law0 := mL56 _ (List.mem_of_getElem? (i := 12) rfl)
theorem mw1357 : Cond.instanceMethod yX1_wrongPlaces ∈ wsL_law0 := mL56 _ (List.mem_of_getElem? (i := 13) rfl)
theorem mw1358 : Cond.selects RX1 yX1_wrongPlaces yX1_wrongPlaces ∈ wsL_law0 := mL56 _ (List.mem_of_getElem? (i := 14) rfl)
theorem mw1359 : Cond.code yX1_wrongPlaces cX1_wrongPlaces 5 (some .int) ∈ wsL_law0 := mL56 _ (List.mem_of_getElem? (i := 15) rfl)
theorem mw1360 : Cond.fieldLink RX1 27 "ReelChange$State" "places" "LReelChange$Table;" ∈ wsL_law0 := mL56 _ (List.mem_of_getElem? (i := 16) rfl)
theorem mw1361 : Cond.fieldLink RX1 32 "ReelChange$Table" "count" "I" ∈ wsL_law0 := mL56 _ (List.mem_of_getElem? (i := 17) rfl)
theorem mw1362 : Cond.methodLink RX1 36 yX7_reelAt ∈ wsL_law0 := mL56 _ (List.mem_of_getElem? (i := 18) rfl)
theorem mw1363 : Cond.methodLink RL 197 yX11_wrong ∈ wsL_law0 := mL56 _ (List.mem_of_getElem? (i := 19) rfl)
theorem mw1364 : Cond.instanceMethod yX11_wrong ∈ wsL_law0 := mL56 _ (List.mem_of_getElem? (i := 20) rfl)
theorem mw1365 : Cond.selects RX11 yX11_wrong yX11_wrong ∈ wsL_law0 := mL56 _ (List.mem_of_getElem? (i := 21) rfl)
theorem mw1366 : Cond.code yX11_wrong cX11_wrong 4 (some .int) ∈ wsL_law0 := mL56 _ (List.mem_of_getElem? (i := 22) rfl)
theorem mw1367 : Cond.methodLink RL 198 yX10_exchanges ∈ wsL_law0 := mL56 _ (List.mem_of_getElem? (i := 23) rfl)
theorem mw1368 : Cond.instanceMethod yX10_exchanges ∈ wsL_law0 := mL57 _ (List.mem_of_getElem? (i := 0) rfl)
theorem mw1369 : Cond.selects RX10 yX10_exchanges yX10_exchanges ∈ wsL_law0 := mL57 _ (List.mem_of_getElem? (i := 1) rfl)
theorem mw1370 : Cond.code yX10_exchanges cX10_exchanges 1 (some .int) ∈ wsL_law0 := mL57 _ (List.mem_of_getElem? (i := 2) rfl)
theorem mw1371 : Cond.methodLink RX10 317 yX1_fewest ∈ wsL_law0 := mL57 _ (List.mem_of_getElem? (i := 3) rfl)
theorem mw1372 : Cond.instanceMethod yX1_fewest ∈ wsL_law0 := mL57 _ (List.mem_of_getElem? (i := 4) rfl)
theorem mw1373 : Cond.selects RX1 yX1_fewest yX1_fewest ∈ wsL_law0 := mL57 _ (List.mem_of_getElem? (i := 5) rfl)
theorem mw1374 : Cond.code yX1_fewest cX1_fewest 8 (some .int) ∈ wsL_law0 := mL57 _ (List.mem_of_getElem? (i := 6) rfl)
theorem mw1375 : Cond.methodLink RX1 40 Lib.Math.min.name ∈ wsL_law0 := mL57 _ (List.mem_of_getElem? (i := 7) rfl)
theorem mw1376 : Cond.methodLink RX1 56 Lib.Math.max.name ∈ wsL_law0 := mL57 _ (List.mem_of_getElem? (i := 8) rfl)
theorem mw1377 : Cond.methodLink RX1 46 yX1_sort ∈ wsL_law0 := mL57 _ (List.mem_of_getElem? (i := 9) rfl)
theorem mw1378 : Cond.instanceMethod yX1_sort ∈ wsL_law0 := mL57 _ (List.mem_of_getElem? (i := 10) rfl)
theorem mw1379 : Cond.selects RX1 yX1_sort yX1_sort ∈ wsL_law0 := mL57 _ (List.mem_of_getElem? (i := 11) rfl)
theorem mw1380 : Cond.code yX1_sort cX1_sort 4 none ∈ wsL_law0 := mL57 _ (List.mem_of_getElem? (i := 12) rfl)
theorem mw1381 : Cond.fieldLink RX1 66 "ReelChange$State" "reels" "LReelChange$Table;" ∈ wsL_law0 := mL57 _ (List.mem_of_getElem? (i := 13) rfl)
theorem mw1382 : Cond.methodLink RX1 63 yX8_clear ∈ wsL_law0 := mL57 _ (List.mem_of_getElem? (i := 14) rfl)
theorem mw1383 : Cond.methodLink RX1 69 yX8_howMany ∈ wsL_law0 := mL57 _ (List.mem_of_getElem? (i := 15) rfl)
theorem mw1384 : Cond.methodLink RX1 72 yX8_add ∈ wsL_law0 := mL57 _ (List.mem_of_getElem? (i := 16) rfl)
theorem mw1385 : Cond.methodLink RX1 50 yX1_weigh ∈ wsL_law0 := mL57 _ (List.mem_of_getElem? (i := 17) rfl)
theorem mw1386 : Cond.instanceMethod yX1_weigh ∈ wsL_law0 := mL57 _ (List.mem_of_getElem? (i := 18) rfl)
theorem mw1387 : Cond.selects RX1 yX1_weigh yX1_weigh ∈ wsL_law0 := mL57 _ (List.mem_of_getElem? (i := 19) rfl)
theorem mw1388 : Cond.code yX1_weigh cX1_weigh 3 none ∈ wsL_law0 := mL57 _ (List.mem_of_getElem? (i := 20) rfl)
theorem mw1389 : Cond.methodLink RX1 75 yX1_unit ∈ wsL_law0 := mL57 _ (List.mem_of_getElem? (i := 21) rfl)
theorem mw1390 : Cond.static yX1_unit ∈ wsL_law0 := mL57 _ (List.mem_of_getElem? (i := 22) rfl)
theorem mw1391 : Cond.code yX1_unit cX1_unit 1 (some .long) ∈ wsL_law0 := mL57 _ (List.mem_of_getElem? (i := 23) rfl)
theorem mw1392 : Cond.methodLink RX1 53 yX8_at ∈ wsL_law0 := mL58 _ (List.mem_of_getElem? (i := 0) rfl)
theorem mw1393 : Cond.methodLink RX1 59 yX8_put ∈ wsL_law0 := mL58 _ (List.mem_of_getElem? (i := 1) rfl)
theorem mw1394 : Cond.methodLink RL 201 yX11_exchanges ∈ wsL_law0 := mL58 _ (List.mem_of_getElem? (i := 2) rfl)
theorem mw1395 : Cond.instanceMethod yX11_exchanges ∈ wsL_law0 := mL58 _ (List.mem_of_getElem? (i := 3) rfl)
theorem mw1396 : Cond.selects RX11 yX11_exchanges yX11_exchanges ∈ wsL_law0 := mL58 _ (List.mem_of_getElem? (i := 4) rfl)
theorem mw1397 : Cond.code yX11_exchanges cX11_exchanges 5 (some .int) ∈ wsL_law0 := mL58 _ (List.mem_of_getElem? (i := 5) rfl)
theorem mw1398 : Cond.methodLink RX11 452 yX11_laySorted ∈ wsL_law0 := mL58 _ (List.mem_of_getElem? (i := 6) rfl)
theorem mw1399 : Cond.instanceMethod yX11_laySorted ∈ wsL_law0 := mL58 _ (List.mem_of_getElem? (i := 7) rfl)
theorem mw1400 : Cond.selects RX11 yX11_laySorted yX11_laySorted ∈ wsL_law0 := mL58 _ (List.mem_of_getElem? (i := 8) rfl)
theorem mw1401 : Cond.code yX11_laySorted cX11_laySorted 3 none ∈ wsL_law0 := mL58 _ (List.mem_of_getElem? (i := 9) rfl)
theorem mw1402 : Cond.methodLink RX11 455 yX11_isEven ∈ wsL_law0 := mL58 _ (List.mem_of_getElem? (i := 10) rfl)
theorem mw1403 : Cond.instanceMethod yX11_isEven ∈ wsL_law0 := mL58 _ (List.mem_of_getElem? (i := 11) rfl)
theorem mw1404 : Cond.selects RX11 yX11_isEven yX11_isEven ∈ wsL_law0 := mL58 _ (List.mem_of_getElem? (i := 12) rfl)
theorem mw1405 : Cond.code yX11_isEven cX11_isEven 6 (some .boolean) ∈ wsL_law0 := mL58 _ (List.mem_of_getElem? (i := 13) rfl)
theorem mw1406 : Cond.methodLink RL 202 yX10_dark ∈ wsL_law0 := mL58 _ (List.mem_of_getElem? (i := 14) rfl)
theorem mw1407 : Cond.instanceMethod yX10_dark ∈ wsL_law0 := mL58 _ (List.mem_of_getElem? (i := 15) rfl)
theorem mw1408 : Cond.selects RX10 yX10_dark yX10_dark ∈ wsL_law0 := mL58 _ (List.mem_of_getElem? (i := 16) rfl)
theorem mw1409 : Cond.code yX10_dark cX10_dark 3 (some .int) ∈ wsL_law0 := mL58 _ (List.mem_of_getElem? (i := 17) rfl)
theorem mw1410 : Cond.constant RX10 320 (65536) ∈ wsL_law0 := mL58 _ (List.mem_of_getElem? (i := 18) rfl)
theorem mw1411 : Cond.fieldLink RX10 328 "ReelChange$Night" "snapped" "I" ∈ wsL_law0 := mL58 _ (List.mem_of_getElem? (i := 19) rfl)
theorem mw1412 : Cond.methodLink RX10 325 yX5_drawBy ∈ wsL_law0 := mL58 _ (List.mem_of_getElem? (i := 20) rfl)
theorem mw1413 : Cond.instanceMethod yX5_drawBy ∈ wsL_law0 := mL58 _ (List.mem_of_getElem? (i := 21) rfl)
theorem mw1414 : Cond.selects RX5 yX5_drawBy yX5_drawBy ∈ wsL_law0 := mL58 _ (List.mem_of_getElem? (i := 22) rfl)
theorem mw1415 : Cond.code yX5_drawBy cX5_drawBy 2 none ∈ wsL_law0 := mL58 _ (List.mem_of_getElem? (i := 23) rfl)
theorem mw1416 : Cond.methodLink RL 205 yX11_dark ∈ wsL_law0 := mL59 _ (List.mem_of_getElem? (i := 0) rfl)
theorem mw1417 : Cond.instanceMethod yX11_dark ∈ wsL_law0 := mL59 _ (List.mem_of_getElem? (i := 1) rfl)
theorem mw1418 : Cond.selects RX11 yX11_dark yX11_dark ∈ wsL_law0 := mL59 _ (List.mem_of_getElem? (i := 2) rfl)
theorem mw1419 : Cond.code yX11_dark cX11_dark 3 (some .int) ∈ wsL_law0 := mL59 _ (List.mem_of_getElem? (i := 3) rfl)
theorem mw1420 : Cond.constant RX11 468 (65536) ∈ wsL_law0 := mL59 _ (List.mem_of_getElem? (i := 4) rfl)
theorem mw1421 : Cond.fieldLink RX11 458 "ReelChangeModel" "seed1" "I" ∈ wsL_law0 := mL59 _ (List.mem_of_getElem? (i := 5) rfl)
theorem mw1422 : Cond.fieldLink RX11 462 "ReelChangeModel" "darkNow" "I" ∈ wsL_law0 := mL59 _ (List.mem_of_getElem? (i := 6) rfl)
theorem mw1423 : Cond.methodLink RX11 469 yX11_drawNight ∈ wsL_law0 := mL59 _ (List.mem_of_getElem? (i := 7) rfl)
theorem mw1424 : Cond.instanceMethod yX11_drawNight ∈ wsL_law0 := mL59 _ (List.mem_of_getElem? (i := 8) rfl)
theorem mw1425 : Cond.selects RX11 yX11_drawNight yX11_drawNight ∈ wsL_law0 := mL59 _ (List.mem_of_getElem? (i := 9) rfl)
theorem mw1426 : Cond.code yX11_drawNight cX11_drawNight 5 none ∈ wsL_law0 := mL59 _ (List.mem_of_getElem? (i := 10) rfl)
theorem mw1427 : Cond.methodLink RX11 465 yX11_drawn ∈ wsL_law0 := mL59 _ (List.mem_of_getElem? (i := 11) rfl)
theorem mw1428 : Cond.instanceMethod yX11_drawn ∈ wsL_law0 := mL59 _ (List.mem_of_getElem? (i := 12) rfl)
theorem mw1429 : Cond.selects RX11 yX11_drawn yX11_drawn ∈ wsL_law0 := mL59 _ (List.mem_of_getElem? (i := 13) rfl)
theorem mw1430 : Cond.code yX11_drawn cX11_drawn 1 (some .int) ∈ wsL_law0 := mL59 _ (List.mem_of_getElem? (i := 14) rfl)
theorem mw1431 : Cond.constant RX11 461 (65537) ∈ wsL_law0 := mL59 _ (List.mem_of_getElem? (i := 15) rfl)
theorem mw1432 : Cond.methodLink RL 206 yX10_bestMan ∈ wsL_law0 := mL59 _ (List.mem_of_getElem? (i := 16) rfl)
theorem mw1433 : Cond.instanceMethod yX10_bestMan ∈ wsL_law0 := mL59 _ (List.mem_of_getElem? (i := 17) rfl)
theorem mw1434 : Cond.selects RX10 yX10_bestMan yX10_bestMan ∈ wsL_law0 := mL59 _ (List.mem_of_getElem? (i := 18) rfl)
theorem mw1435 : Cond.code yX10_bestMan cX10_bestMan 7 (some .int) ∈ wsL_law0 := mL59 _ (List.mem_of_getElem? (i := 19) rfl)
theorem mw1436 : Cond.methodLink RX10 334 yX10_wasteByDraws ∈ wsL_law0 := mL59 _ (List.mem_of_getElem? (i := 20) rfl)
theorem mw1437 : Cond.instanceMethod yX10_wasteByDraws ∈ wsL_law0 := mL59 _ (List.mem_of_getElem? (i := 21) rfl)
theorem mw1438 : Cond.selects RX10 yX10_wasteByDraws yX10_wasteByDraws ∈ wsL_law0 := mL59 _ (List.mem_of_getElem? (i := 22) rfl)
theorem mw1439 : Cond.code yX10_wasteByDraws cX10_wasteByDraws 6 (some .int) ∈ wsL_law0 := mL59 _ (List.mem_of_getElem? (i := 23) rfl)
theorem mw1440 : Cond.methodLink RL 209 yX11_bestMan ∈ wsL_law0 := mL60 _ (List.mem_of_getElem? (i := 0) rfl)
theorem mw1441 : Cond.instanceMethod yX11_bestMan ∈ wsL_law0 := mL60 _ (List.mem_of_getElem? (i := 1) rfl)
theorem mw1442 : Cond.selects RX11 yX11_bestMan yX11_bestMan ∈ wsL_law0 := mL60 _ (List.mem_of_getElem? (i := 2) rfl)
theorem mw1443 : Cond.code yX11_bestMan cX11_bestMan 8 (some .int) ∈ wsL_law0 := mL60 _ (List.mem_of_getElem? (i := 3) rfl)
theorem mw1444 : Cond.constant RX11 472 (100000000) ∈ wsL_law0 := mL60 _ (List.mem_of_getElem? (i := 4) rfl)
theorem mw1445 : Cond.methodLink RL 210 yX10_threads ∈ wsL_law0 := mL60 _ (List.mem_of_getElem? (i := 5) rfl)
theorem mw1446 : Cond.instanceMethod yX10_threads ∈ wsL_law0 := mL60 _ (List.mem_of_getElem? (i := 6) rfl)
theorem mw1447 : Cond.selects RX10 yX10_threads yX10_threads ∈ wsL_law0 := mL60 _ (List.mem_of_getElem? (i := 7) rfl)
theorem mw1448 : Cond.code yX10_threads cX10_threads 3 (some .boolean) ∈ wsL_law0 := mL60 _ (List.mem_of_getElem? (i := 8) rfl)
theorem mw1449 : Cond.methodLink RX10 337 yX10_refuseAct ∈ wsL_law0 := mL60 _ (List.mem_of_getElem? (i := 9) rfl)
theorem mw1450 : Cond.instanceMethod yX10_refuseAct ∈ wsL_law0 := mL60 _ (List.mem_of_getElem? (i := 10) rfl)
theorem mw1451 : Cond.selects RX10 yX10_refuseAct yX10_refuseAct ∈ wsL_law0 := mL60 _ (List.mem_of_getElem? (i := 11) rfl)
theorem mw1452 : Cond.code yX10_refuseAct cX10_refuseAct 2 (some .boolean) ∈ wsL_law0 := mL60 _ (List.mem_of_getElem? (i := 12) rfl)
theorem mw1453 : Cond.methodLink RX10 340 yX4_keep ∈ wsL_law0 := mL60 _ (List.mem_of_getElem? (i := 13) rfl)
theorem mw1454 : Cond.instanceMethod yX4_keep ∈ wsL_law0 := mL60 _ (List.mem_of_getElem? (i := 14) rfl)
theorem mw1455 : Cond.selects RX4 yX4_keep yX4_keep ∈ wsL_law0 := mL60 _ (List.mem_of_getElem? (i := 15) rfl)
theorem mw1456 : Cond.code yX4_keep cX4_keep 3 none ∈ wsL_law0 := mL60 _ (List.mem_of_getElem? (i := 16) rfl)
theorem mw1457 : Cond.methodLink RX4 39 Lib.Math.min.name ∈ wsL_law0 := mL60 _ (List.mem_of_getElem? (i := 17) rfl)
theorem mw1458 : Cond.methodLink RX4 31 yX4_slot ∈ wsL_law0 := mL60 _ (List.mem_of_getElem? (i := 18) rfl)
theorem mw1459 : Cond.static yX4_slot ∈ wsL_law0 := mL60 _ (List.mem_of_getElem? (i := 19) rfl)
theorem mw1460 : Cond.code yX4_slot cX4_slot 2 (some (.object "ReelChange$State")) ∈ wsL_law0 := mL60 _ (List.mem_of_getElem? (i := 20) rfl)
theorem mw1461 : Cond.methodLink RX4 35 yX7_copyFrom ∈ wsL_law0 := mL60 _ (List.mem_of_getElem? (i := 21) rfl)
theorem mw1462 : Cond.methodLink RX10 343 yX8_put ∈ wsL_law0 := mL60 _ (List.mem_of_getElem? (i := 22) rfl)
theorem mw1463 : Cond.methodLink RX10 346 yX10_actDone ∈ wsL_law0 := mL60 _ (List.mem_of_getElem? (i := 23) rfl)
theorem mw1464 : Cond.instanceMethod yX10_actDone ∈ wsL_law0 := mL61 _ (List.mem_of_getElem? (i := 0) rfl)
theorem mw1465 : Cond.selects RX10 yX10_actDone yX10_actDone ∈ wsL_law0 := mL61 _ (List.mem_of_getElem? (i := 1) rfl)
theorem mw1466 : Cond.code yX10_actDone cX10_actDone 1 (some .boolean) ∈ wsL_law0 := mL61 _ (List.mem_of_getElem? (i := 2) rfl)
theorem mw1467 : Cond.methodLink RL 214 yX11_threads ∈ wsL_law0 := mL61 _ (List.mem_of_getElem? (i := 3) rfl)
theorem mw1468 : Cond.instanceMethod yX11_threads ∈ wsL_law0 := mL61 _ (List.mem_of_getElem? (i := 4) rfl)
theorem mw1469 : Cond.selects RX11 yX11_threads yX11_threads ∈ wsL_law0 := mL61 _ (List.mem_of_getElem? (i := 5) rfl)
theorem mw1470 : Cond.code yX11_threads cX11_threads 3 (some .boolean) ∈ wsL_law0 := mL61 _ (List.mem_of_getElem? (i := 6) rfl)
theorem mw1471 : Cond.methodLink RX11 473 yX11_isNot ∈ wsL_law0 := mL61 _ (List.mem_of_getElem? (i := 7) rfl)
theorem mw1472 : Cond.instanceMethod yX11_isNot ∈ wsL_law0 := mL61 _ (List.mem_of_getElem? (i := 8) rfl)
theorem mw1473 : Cond.selects RX11 yX11_isNot yX11_isNot ∈ wsL_law0 := mL61 _ (List.mem_of_getElem? (i := 9) rfl)
theorem mw1474 : Cond.code yX11_isNot cX11_isNot 2 (some .boolean) ∈ wsL_law0 := mL61 _ (List.mem_of_getElem? (i := 10) rfl)
theorem mw1475 : Cond.methodLink RX11 476 yX11_note ∈ wsL_law0 := mL61 _ (List.mem_of_getElem? (i := 11) rfl)
theorem mw1476 : Cond.instanceMethod yX11_note ∈ wsL_law0 := mL61 _ (List.mem_of_getElem? (i := 12) rfl)
theorem mw1477 : Cond.selects RX11 yX11_note yX11_note ∈ wsL_law0 := mL61 _ (List.mem_of_getElem? (i := 13) rfl)
theorem mw1478 : Cond.code yX11_note cX11_note 2 none ∈ wsL_law0 := mL61 _ (List.mem_of_getElem? (i := 14) rfl)
theorem mw1479 : Cond.methodLink RL 215 yX10_trim ∈ wsL_law0 := mL61 _ (List.mem_of_getElem? (i := 15) rfl)
theorem mw1480 : Cond.instanceMethod yX10_trim ∈ wsL_law0 := mL61 _ (List.mem_of_getElem? (i := 16) rfl)
theorem mw1481 : Cond.selects RX10 yX10_trim yX10_trim ∈ wsL_law0 := mL61 _ (List.mem_of_getElem? (i := 17) rfl)
theorem mw1482 : Cond.code yX10_trim cX10_trim 3 (some .boolean) ∈ wsL_law0 := mL61 _ (List.mem_of_getElem? (i := 18) rfl)
theorem mw1483 : Cond.methodLink RL 219 yX11_trim ∈ wsL_law0 := mL61 _ (List.mem_of_getElem? (i := 19) rfl)
theorem mw1484 : Cond.instanceMethod yX11_trim ∈ wsL_law0 := mL61 _ (List.mem_of_getElem? (i := 20) rfl)
theorem mw1485 : Cond.selects RX11 yX11_trim yX11_trim ∈ wsL_law0 := mL61 _ (List.mem_of_getElem? (i := 21) rfl)
theorem mw1486 : Cond.code yX11_trim cX11_trim 3 (some .boolean) ∈ wsL_law0 := mL61 _ (List.mem_of_getElem? (i := 22) rfl)
theorem mw1487 : Cond.methodLink RL 220 yX10_mend ∈ wsL_law0 := mL61 _ (List.mem_of_getElem? (i := 23) rfl)
theorem mw1488 : Cond.instanceMethod yX10_mend ∈ wsL_law0 := mL62 _ (List.mem_of_getElem? (i := 0) rfl)
theorem mw1489 : Cond.selects RX10 yX10_mend yX10_mend ∈ wsL_law0 := mL62 _ (List.mem_of_getElem? (i := 1) rfl)
theorem mw1490 : Cond.code yX10_mend cX10_mend 3 (some .int) ∈ wsL_law0 := mL62 _ (List.mem_of_getElem? (i := 2) rfl)
theorem mw1491 : Cond.methodLink RX10 349 yX7_cutOut ∈ wsL_law0 := mL62 _ (List.mem_of_getElem? (i := 3) rfl)
theorem mw1492 : Cond.instanceMethod yX7_cutOut ∈ wsL_law0 := mL62 _ (List.mem_of_getElem? (i := 4) rfl)
theorem mw1493 : Cond.selects RX7 yX7_cutOut yX7_cutOut ∈ wsL_law0 := mL62 _ (List.mem_of_getElem? (i := 5) rfl)
theorem mw1494 : Cond.code yX7_cutOut cX7_cutOut 5 none ∈ wsL_law0 := mL62 _ (List.mem_of_getElem? (i := 6) rfl)
theorem mw1495 : Cond.methodLink RX7 71 yX8_put ∈ wsL_law0 := mL62 _ (List.mem_of_getElem? (i := 7) rfl)
theorem mw1496 : Cond.methodLink RX7 75 yX7_sooner ∈ wsL_law0 := mL62 _ (List.mem_of_getElem? (i := 8) rfl)
theorem mw1497 : Cond.static yX7_sooner ∈ wsL_law0 := mL62 _ (List.mem_of_getElem? (i := 9) rfl)
theorem mw1498 : Cond.code yX7_sooner cX7_sooner 4 (some .int) ∈ wsL_law0 := mL62 _ (List.mem_of_getElem? (i := 10) rfl)
theorem mw1499 : Cond.methodLink RX7 83 Lib.Math.max.name ∈ wsL_law0 := mL62 _ (List.mem_of_getElem? (i := 11) rfl)
theorem mw1500 : Cond.methodLink RX7 86 Lib.Math.min.name ∈ wsL_law0 := mL62 _ (List.mem_of_getElem? (i := 12) rfl)
theorem mw1501 : Cond.methodLink RX7 79 yX7_pull ∈ wsL_law0 := mL62 _ (List.mem_of_getElem? (i := 13) rfl)
theorem mw1502 : Cond.static yX7_pull ∈ wsL_law0 := mL62 _ (List.mem_of_getElem? (i := 14) rfl)
theorem mw1503 : Cond.code yX7_pull cX7_pull 5 none ∈ wsL_law0 := mL62 _ (List.mem_of_getElem? (i := 15) rfl)
theorem mw1504 : Cond.methodLink RL 223 yX11_mend ∈ wsL_law0 := mL62 _ (List.mem_of_getElem? (i := 16) rfl)
theorem mw1505 : Cond.instanceMethod yX11_mend ∈ wsL_law0 := mL62 _ (List.mem_of_getElem? (i := 17) rfl)
theorem mw1506 : Cond.selects RX11 yX11_mend yX11_mend ∈ wsL_law0 := mL62 _ (List.mem_of_getElem? (i := 18) rfl)
theorem mw1507 : Cond.code yX11_mend cX11_mend 6 (some .int) ∈ wsL_law0 := mL62 _ (List.mem_of_getElem? (i := 19) rfl)
theorem mw1508 : Cond.methodLink RX11 479 yX11_shifted ∈ wsL_law0 := mL62 _ (List.mem_of_getElem? (i := 20) rfl)
theorem mw1509 : Cond.static yX11_shifted ∈ wsL_law0 := mL62 _ (List.mem_of_getElem? (i := 21) rfl)
theorem mw1510 : Cond.code yX11_shifted cX11_shifted 4 (some .int) ∈ wsL_law0 := mL62 _ (List.mem_of_getElem? (i := 22) rfl)
theorem mw1511 : Cond.methodLink RL 224 yX10_undo ∈ wsL_law0 := mL62 _ (List.mem_of_getElem? (i := 23) rfl)
theorem mw1512 : Cond.instanceMethod yX10_undo ∈ wsL_law0 := mL63 _ (List.mem_of_getElem? (i := 0) rfl)
theorem mw1513 : Cond.selects RX10 yX10_undo yX10_undo ∈ wsL_law0 := mL63 _ (List.mem_of_getElem? (i := 1) rfl)
theorem mw1514 : Cond.code yX10_undo cX10_undo 1 (some .boolean) ∈ wsL_law0 := mL63 _ (List.mem_of_getElem? (i := 2) rfl)
theorem mw1515 : Cond.methodLink RX10 352 yX4_takeBack ∈ wsL_law0 := mL63 _ (List.mem_of_getElem? (i := 3) rfl)
theorem mw1516 : Cond.instanceMethod yX4_takeBack ∈ wsL_law0 := mL63 _ (List.mem_of_getElem? (i := 4) rfl)
theorem mw1517 : Cond.selects RX4 yX4_takeBack yX4_takeBack ∈ wsL_law0 := mL63 _ (List.mem_of_getElem? (i := 5) rfl)
theorem mw1518 : Cond.code yX4_takeBack cX4_takeBack 2 (some .boolean) ∈ wsL_law0 := mL63 _ (List.mem_of_getElem? (i := 6) rfl)
theorem mw1519 : Cond.methodLink RL 228 yX11_undo ∈ wsL_law0 := mL63 _ (List.mem_of_getElem? (i := 7) rfl)
theorem mw1520 : Cond.instanceMethod yX11_undo ∈ wsL_law0 := mL63 _ (List.mem_of_getElem? (i := 8) rfl)
theorem mw1521 : Cond.selects RX11 yX11_undo yX11_undo ∈ wsL_law0 := mL63 _ (List.mem_of_getElem? (i := 9) rfl)
theorem mw1522 : Cond.code yX11_undo cX11_undo 1 (some .boolean) ∈ wsL_law0 := mL63 _ (List.mem_of_getElem? (i := 10) rfl)
theorem mw1523 : Cond.methodLink RL 229 yX10_image ∈ wsL_law0 := mL63 _ (List.mem_of_getElem? (i := 11) rfl)
theorem mw1524 : Cond.instanceMethod yX10_image ∈ wsL_law0 := mL63 _ (List.mem_of_getElem? (i := 12) rfl)
theorem mw1525 : Cond.selects RX10 yX10_image yX10_image ∈ wsL_law0 := mL63 _ (List.mem_of_getElem? (i := 13) rfl)
theorem mw1526 : Cond.code yX10_image cX10_image 2 (some .int) ∈ wsL_law0 := mL63 _ (List.mem_of_getElem? (i := 14) rfl)
theorem mw1527 : Cond.methodLink RX10 356 yX4_takeImage ∈ wsL_law0 := mL63 _ (List.mem_of_getElem? (i := 15) rfl)
theorem mw1528 : Cond.instanceMethod yX4_takeImage ∈ wsL_law0 := mL63 _ (List.mem_of_getElem? (i := 16) rfl)
theorem mw1529 : Cond.selects RX4 yX4_takeImage yX4_takeImage ∈ wsL_law0 := mL63 _ (List.mem_of_getElem? (i := 17) rfl)
theorem mw1530 : Cond.code yX4_takeImage cX4_takeImage 3 (some .int) ∈ wsL_law0 := mL63 _ (List.mem_of_getElem? (i := 18) rfl)
theorem mw1531 : Cond.methodLink RL 232 yX11_image ∈ wsL_law0 := mL63 _ (List.mem_of_getElem? (i := 19) rfl)
theorem mw1532 : Cond.instanceMethod yX11_image ∈ wsL_law0 := mL63 _ (List.mem_of_getElem? (i := 20) rfl)
theorem mw1533 : Cond.selects RX11 yX11_image yX11_image ∈ wsL_law0 := mL63 _ (List.mem_of_getElem? (i := 21) rfl)
theorem mw1534 : Cond.code yX11_image cX11_image 1 (some .int) ∈ wsL_law0 := mL63 _ (List.mem_of_getElem? (i := 22) rfl)
theorem mw1535 : Cond.methodLink RL 233 yX10_back ∈ wsL_law0 := mL63 _ (List.mem_of_getElem? (i := 23) rfl)
theorem mw1536 : Cond.instanceMethod yX10_back ∈ wsL_law0 := mL64 _ (List.mem_of_getElem? (i := 0) rfl)
theorem mw1537 : Cond.selects RX10 yX10_back yX10_back ∈ wsL_law0 := mL64 _ (List.mem_of_getElem? (i := 1) rfl)
theorem mw1538 : Cond.code yX10_back cX10_back 2 (some .boolean) ∈ wsL_law0 := mL64 _ (List.mem_of_getElem? (i := 2) rfl)
theorem mw1539 : Cond.methodLink RX10 359 yX4_goBack ∈ wsL_law0 := mL64 _ (List.mem_of_getElem? (i := 3) rfl)
theorem mw1540 : Cond.instanceMethod yX4_goBack ∈ wsL_law0 := mL64 _ (List.mem_of_getElem? (i := 4) rfl)
theorem mw1541 : Cond.selects RX4 yX4_goBack yX4_goBack ∈ wsL_law0 := mL64 _ (List.mem_of_getElem? (i := 5) rfl)
theorem mw1542 : Cond.code yX4_goBack cX4_goBack 3 (some .boolean) ∈ wsL_law0 := mL64 _ (List.mem_of_getElem? (i := 6) rfl)
theorem mw1543 : Cond.methodLink RL 237 yX11_back ∈ wsL_law0 := mL64 _ (List.mem_of_getElem? (i := 7) rfl)
theorem mw1544 : Cond.instanceMethod yX11_back ∈ wsL_law0 := mL64 _ (List.mem_of_getElem? (i := 8) rfl)
theorem mw1545 : Cond.selects RX11 yX11_back yX11_back ∈ wsL_law0 := mL64 _ (List.mem_of_getElem? (i := 9) rfl)
theorem mw1546 : Cond.code yX11_back cX11_back 2 (some .boolean) ∈ wsL_law0 := mL64 _ (List.mem_of_getElem? (i := 10) rfl)
theorem mw1547 : Cond.methodLink RL 238 yL_led ∈ wsL_law0 := mL64 _ (List.mem_of_getElem? (i := 11) rfl)
theorem mw1548 : Cond.static yL_led ∈ wsL_law0 := mL64 _ (List.mem_of_getElem? (i := 12) rfl)
theorem mw1549 : Cond.initialized RL ∈ wsL_law0 := mL64 _ (List.mem_of_getElem? (i := 13) rfl)
theorem mw1550 : Cond.codeWith yL_led cL_led 4 (some .int) [(0, 9, 12, 13)] ∈ wsL_law0 := mL64 _ (List.mem_of_getElem? (i := 14) rfl)
theorem mw1551 : Cond.classLink RL 13 "java/util/NoSuchElementException" ∈ wsL_law0 := mL64 _ (List.mem_of_getElem? (i := 15) rfl)
theorem mw1552 : Cond.methodLink RL 7 yX10_led ∈ wsL_law0 := mL64 _ (List.mem_of_getElem? (i := 16) rfl)
theorem mw1553 : Cond.instanceMethod yX10_led ∈ wsL_law0 := mL64 _ (List.mem_of_getElem? (i := 17) rfl)
theorem mw1554 : Cond.selects RX10 yX10_led yX10_led ∈ wsL_law0 := mL64 _ (List.mem_of_getElem? (i := 18) rfl)
theorem mw1555 : Cond.code yX10_led cX10_led 4 (some .int) ∈ wsL_law0 := mL64 _ (List.mem_of_getElem? (i := 19) rfl)
theorem mw1556 : Cond.classLink RX10 363 "java/util/NoSuchElementException" ∈ wsL_law0 := mL64 _ (List.mem_of_getElem? (i := 20) rfl)
theorem mw1557 : Cond.initialized "java/util/NoSuchElementException" ∈ wsL_law0 := mL64 _ (List.mem_of_getElem? (i := 21) rfl)
theorem mw1558 : Cond.methodLink RL 243 yX11_led ∈ wsL_law0 := mL64 _ (List.mem_of_getElem? (i := 22) rfl)
theorem mw1559 : Cond.instanceMethod yX11_led ∈ wsL_law0 := mL64 _ (List.mem_of_getElem? (i := 23) rfl)
theorem mw1560 : Cond.selects RX11 yX11_led yX11_led ∈ wsL_law0 := mL65 _ (List.mem_of_getElem? (i := 0) rfl)
theorem mw1561 : Cond.code yX11_led cX11_led 4 (some .int) ∈ wsL_law0 := mL65 _ (List.mem_of_getElem? (i := 1) rfl)
theorem mw1562 : Cond.methodLink RL 244 yX10_size ∈ wsL_law0 := mL65 _ (List.mem_of_getElem? (i := 2) rfl)
theorem mw1563 : Cond.instanceMethod yX10_size ∈ wsL_law0 := mL65 _ (List.mem_of_getElem? (i := 3) rfl)
theorem mw1564 : Cond.selects RX10 yX10_size yX10_size ∈ wsL_law0 := mL65 _ (List.mem_of_getElem? (i := 4) rfl)
theorem mw1565 : Cond.code yX10_size cX10_size 2 (some .int) ∈ wsL_law0 := mL65 _ (List.mem_of_getElem? (i := 5) rfl)
theorem mw1566 : Cond.fieldLink RX10 366 "ReelChange$State" "mended" "I" ∈ wsL_law0 := mL65 _ (List.mem_of_getElem? (i := 6) rfl)
theorem mw1567 : Cond.fieldLink RX10 372 "ReelChange$Kept" "acts" "I" ∈ wsL_law0 := mL65 _ (List.mem_of_getElem? (i := 7) rfl)
theorem mw1568 : Cond.fieldLink RX10 375 "ReelChange$Kept" "imaged" "I" ∈ wsL_law0 := mL65 _ (List.mem_of_getElem? (i := 8) rfl)
theorem mw1569 : Cond.methodLink RX10 369 yJ6_bitCount_0f7a4 ∈ wsL_law0 := mL65 _ (List.mem_of_getElem? (i := 9) rfl)
theorem mw1570 : Cond.methodLink RL 247 yX11_size ∈ wsL_law0 := mL65 _ (List.mem_of_getElem? (i := 10) rfl)
theorem mw1571 : Cond.instanceMethod yX11_size ∈ wsL_law0 := mL65 _ (List.mem_of_getElem? (i := 11) rfl)
theorem mw1572 : Cond.selects RX11 yX11_size yX11_size ∈ wsL_law0 := mL65 _ (List.mem_of_getElem? (i := 12) rfl)
theorem mw1573 : Cond.code yX11_size cX11_size 2 (some .int) ∈ wsL_law0 := mL65 _ (List.mem_of_getElem? (i := 13) rfl)
theorem mw1574 : Cond.methodLink RL 248 yX10_trouble ∈ wsL_law0 := mL65 _ (List.mem_of_getElem? (i := 14) rfl)
theorem mw1575 : Cond.instanceMethod yX10_trouble ∈ wsL_law0 := mL65 _ (List.mem_of_getElem? (i := 15) rfl)
theorem mw1576 : Cond.selects RX10 yX10_trouble yX10_trouble ∈ wsL_law0 := mL65 _ (List.mem_of_getElem? (i := 16) rfl)
theorem mw1577 : Cond.code yX10_trouble cX10_trouble 1 (some .int) ∈ wsL_law0 := mL65 _ (List.mem_of_getElem? (i := 17) rfl)
theorem mw1578 : Cond.methodLink RL 251 yX11_trouble ∈ wsL_law0 := mL65 _ (List.mem_of_getElem? (i := 18) rfl)
theorem mw1579 : Cond.instanceMethod yX11_trouble ∈ wsL_law0 := mL65 _ (List.mem_of_getElem? (i := 19) rfl)
theorem mw1580 : Cond.selects RX11 yX11_trouble yX11_trouble ∈ wsL_law0 := mL65 _ (List.mem_of_getElem? (i := 20) rfl)
theorem mw1581 : Cond.code yX11_trouble cX11_trouble 1 (some .int) ∈ wsL_law0 := mL65 _ (List.mem_of_getElem? (i := 21) rfl)
abbrev vwCl : List vw_C := [(RX0, TX0, 2), (RX1, TX1, 3), (RX2, TX2, 2), (RX3, TX3, 8), (RX4, TX4, 5), (RX5, TX5, 9), (RX6, TX6, 3), (RX7, TX7, 6), (RX8, TX8, 4), (RX9, TX9, 15), (RX10, TX10, 10), (RX11, TX11, 43)]
def strL : List (String × Nat × String) := [(RX9, 103, "house"), (RX9, 167, "apart"), (RX9, 173, "motor"), (RX9, 175, "leader"), (RX9, 177, "burns"), (RX9, 179, "trim"), (RX9, 181, "mend"), (RX9, 111, "by"), (RX9, 119, "reel"), (RX9, 124, "town"), (RX9, 129, "mark"), (RX9, 134, "join"), (RX9, 139, "weak"), (RX9, 144, "man"), (RX9, 149, "shows"), (RX9, 154, "boys"), (RX9, 159, "seen"), (RX9, 287, "scratch"), (RX9, 203, "frames"), (RX9, 205, "first"), (RX9, 207, "whole"), (RX9, 215, "trust"), (RX9, 235, "lacks"), (RX9, 243, "snaps"), (RX9, 251, "clean"), (RX9, 253, "early"), (RX9, 255, "late"), (RX9, 257, "misled"), (RX9, 249, "slip"), (RX9, 270, "ride"), (RX9, 272, "falls"), (RX9, 277, "black"), (RX9, 279, "lost"), (RX11, 152, "house"), (RX11, 262, "apart"), (RX11, 268, "motor"), (RX11, 269, "leader"), (RX11, 271, "burns"), (RX11, 273, "trim"), (RX11, 275, "mend"), (RX11, 154, "reel"), (RX11, 156, "town"), (RX11, 158, "mark"), (RX11, 160, "join"), (RX11, 162, "weak"), (RX11, 164, "man"), (RX11, 166, "shows"), (RX11, 168, "boys"), (RX11, 170, "by"), (RX11, 172, "seen"), (RX11, 174, "scratch"), (RX11, 281, "frames"), (RX11, 283, "first"), (RX11, 285, "whole"), (RX11, 286, "trust"), (RX11, 294, "lacks"), (RX11, 296, "snaps"), (RX11, 298, "clean"), (RX11, 300, "early"), (RX11, 302, "late"), (RX11, 304, "misled"), (RX11, 306, "slip"), (RX11, 312, "ride"), (RX11, 314, "falls"), (RX11, 316, "black"), (RX11, 318, "lost")]
def nestL : List (String × Nat × MethodName × String) := [(RX10, 9, yX9_init, RX10), (RX9, 17, yX3_init, RX10), (RX3, 9, yX7_init, RX10), (RX10, 18, yX3_init, RX10), (RX10, 25, yX7_init, RX10), (RX4, 30, yX7_init, RX10), (RX10, 39, yX5_init, RX10), (RX10, 46, yX0_init, RX10), (RX10, 53, yX6_init, RX10), (RX10, 60, yX1_init, RX10), (RX10, 67, yX2_init, RX10)]
end
section
/-! the layer: contracts with one list of words, walks over (cells, locals, pc, stack) -/
abbrev Gx : Type := va_G × (ClassId × ClassId × ClassId × ClassId)
abbrev tyL (g : Gx) : List (ClassId × FieldType) := [(g.2.1, .byte), (g.2.2.1, .int), (g.2.2.2.1, .long), (g.2.2.2.2, .object "ReelChange$State")]
def nseN : String := "java/util/NoSuchElementException"
/-- what isn't among the good words: the array class of State, the String constants, the constructors of nest mates -/
def kX (U : State) : Prop := va_AO "ReelChange$State" U ∧ (∀ q ∈ strL, ∃ a, vk_R q.1 q.2.1 q.2.2 a U) ∧ (∀ q ∈ nestL, va_Nw (.methodLinkNest q.1 q.2.1 q.2.2.1 q.2.2.2) U) ∧ va_Nw (.castable nseN nseN) U
def kK (g : Gx) (U : State) : Prop := va_K g.1 vwCl (tyL g) U ∧ kX U
theorem kK.warm {g : Gx} {s U : State} (hW : s.WarmedH U.vm) (h : kK g s) : kK g U :=
  ⟨va_K.moved hW.alike h.1, va_AO.moved hW.alike h.2.1, fun q hq => (h.2.2.1 q hq).imp fun _ ha => vk_R.warm hW ha, fun q hq => va_Nw.warmM hW (h.2.2.2.1 q hq), va_Nw.warmC hW h.2.2.2.2⟩
theorem kK.calling {g : Gx} {U : State} {gf : JFrame} {mk : MethodId} {a : Array Value} (h : kK g U) : kK g (U.calling gf mk a) :=
  ⟨va_K.moved (u := U) (U := U.calling gf mk a) (Vm.Alike.refl U.vm) h.1, va_AO.moved (u := U) (U := U.calling gf mk a) (Vm.Alike.refl U.vm) h.2.1, fun q hq => (h.2.2.1 q hq).imp fun _ ha => vk_R.same (u := U) rfl ha, fun q hq => va_Nw.same (u := U) rfl rfl (h.2.2.2.1 q hq), va_Nw.same (u := U) rfl rfl h.2.2.2.2⟩
def kPre (g : Gx) (ws : va_W) (sz : Nat) (U : State) : Prop := U.heap.size = sz ∧ va_P g.1 vwCl ws U.heap ∧ kK g U ∧ va_D (fun _ => True) ws
def kPost (g : Gx) (A : Nat → Prop) (w : va_W) (t : State) : Prop := va_P g.1 vwCl w t.heap ∧ va_D A w
abbrev rm4 (f lo mc ms : Nat) : Room := { frames := f, cells := mc, slots := ms, locals := lo }
def cI (l : Launch) (g : Gx) (y : MethodName) (c : ByteArray) (n : Nat) (ret : Option FieldType) (f lo mc ms : Nat) (av : List Value) (ws : va_W) (P : Int32 → va_W → Prop) : Prop :=
  ∀ sz : Nat, Met l y (Cond.code y c n ret :: wsL_law0) (rm4 f lo mc ms) (va_Pc av (kPre g ws sz)) (va_Qi P (kPost g (va_A ws sz)) (va_A ws sz)) mc ms (va_A ws sz)
def cL (l : Launch) (g : Gx) (y : MethodName) (c : ByteArray) (n : Nat) (ret : Option FieldType) (f lo mc ms : Nat) (av : List Value) (ws : va_W) (P : Int64 → va_W → Prop) : Prop :=
  ∀ sz : Nat, Met l y (Cond.code y c n ret :: wsL_law0) (rm4 f lo mc ms) (va_Pc av (kPre g ws sz)) (va_Ql P (kPost g (va_A ws sz)) (va_A ws sz)) mc ms (va_A ws sz)
def cV (l : Launch) (g : Gx) (y : MethodName) (c : ByteArray) (n : Nat) (f lo mc ms : Nat) (av : List Value) (ws : va_W) (P : va_W → Prop) : Prop :=
  ∀ sz : Nat, Met l y (Cond.code y c n none :: wsL_law0) (rm4 f lo mc ms) (va_Pc av (kPre g ws sz)) (va_Qv P (kPost g (va_A ws sz)) (va_A ws sz)) mc ms (va_A ws sz)
/-- what a walk stands on: the machine, the code, the words, the classes, what it may write -/
def Cx (p : Program) (s : State) (m : MethodId) (meth : Method) (c : Code) (args : Array Value) (cc : ByteArray) (nL : Nat) (own : String) (A : Nat → Prop) (g : Gx) : Prop :=
  p.tables.exec = Jvm.exec ∧ c.code = cc ∧ c.maxLocals = nL ∧ s.vm.findClass own = some m.cls ∧ (∀ w ∈ wsL_law0, w.before args s = true) ∧ kK g s ∧ (∀ q : Nat, s.heap.size ≤ q → A q) ∧ meth.locks = false
/-- from here on the machine comes to Q: cells ws, locals lv, at pc, with stack st, n1 cells of n2 slots made so far -/
def Wk (p : Program) (l : Launch) (e : Env) (R : Room) (s : State) (m : MethodId) (args : Array Value) (below : List Frame) (meth : Method) (c : Code) (Q : State → Prop) (A : Nat → Prop) (g : Gx) (nL n1 n2 : Nat) (ws : va_W) (lv : List (Nat × Value)) (pc : Nat) (st : List Value) : Prop :=
  ∀ (H : Heap) (locs : List Loc) (ls : Array Slot), va_P g.1 vwCl ws H → va_D A ws → va_S A s.heap H locs → lv_has ls nL lv → W p l e R s m args below meth c H locs n1 n2 Q (F0 m pc ls st)
theorem goodL0 : ∀ w ∈ wsL_law0, (w.onTables && w.keeps) = true ∨ ∃ ty, w = .arrayClass ty := fun w h => (goodL w h)
theorem gU : GoodIn wsL_law0 wsL_law0 := fun w h => ⟨h, goodL0 w h⟩
theorem gC {y : MethodName} {b : ByteArray} {n : Nat} {r : Option FieldType} (h : Cond.code y b n r ∈ wsL_law0) : GoodIn wsL_law0 (Cond.code y b n r :: wsL_law0) := fun w hw => (List.mem_cons.mp hw).elim (fun q => by rw [q]; exact gU _ h) (fun q => gU w q)
theorem gV {own C : String} {i : Nat} {y : MethodName} {b : ByteArray} {n : Nat} {r : Option FieldType} (h1 : Cond.methodLink own i y ∈ wsL_law0) (h2 : Cond.instanceMethod y ∈ wsL_law0) (h3 : Cond.selects C y y ∈ wsL_law0) (h4 : Cond.initialized C ∈ wsL_law0) (h5 : Cond.code y b n r ∈ wsL_law0) : GoodIn wsL_law0 (wsV own i C y (Cond.code y b n r :: wsL_law0)) := by
  intro w hw
  rcases List.mem_append.mp hw with q | q
  · simp only [List.mem_cons, List.not_mem_nil, or_false] at q
    rcases q with rfl | rfl | rfl | rfl
    · exact gU _ h1
    · exact gU _ h2
    · exact gU _ h3
    · exact gU _ h4
  · exact gC h5 w q
theorem gS {own : String} {i : Nat} {y : MethodName} {b : ByteArray} {n : Nat} {r : Option FieldType} (h1 : Cond.methodLink own i y ∈ wsL_law0) (h2 : Cond.static y ∈ wsL_law0) (h4 : Cond.initialized own ∈ wsL_law0) (h5 : Cond.code y b n r ∈ wsL_law0) : GoodIn wsL_law0 (wsS own i y (Cond.code y b n r :: wsL_law0)) := by
  intro w hw
  rcases List.mem_append.mp hw with q | q
  · simp only [List.mem_cons, List.not_mem_nil, or_false] at q
    rcases q with rfl | rfl | rfl
    · exact gU _ h1
    · exact gU _ h2
    · exact gU _ h4
  · exact gC h5 w q
section KB
variable {p : Program} {l : Launch} {e : Env} {R : Room} {s : State} {m : MethodId} {args : Array Value} {below : List Frame} {meth : Method} {c : Code} {Q : State → Prop} {A : Nat → Prop} {g : Gx} {cc : ByteArray} {nL n1 n2 pc : Nat} {own : String} {ws : va_W} {lv : List (Nat × Value)} {st : List Value}
theorem cI.of {y : MethodName} {n f lo mc ms : Nat} {ret : Option FieldType} {av : List Value} {P : Int32 → va_W → Prop} (hy : plainName y.cls = true) (hn : (lg_sl av).length ≤ n)
    (body : ∀ (p : Program) (e : Env) (s : State) (m : MethodId) (args : Array Value) (below : List Frame) (meth : Method) (c : Code) (A : Nat → Prop), Cx p s m meth c args cc n y.cls A g → meth.sig.returnType = ret → meth.name = y.name →
      Wk p l e (rm4 f lo mc ms) s m args below meth c (MQ below (va_Qi P (kPost g A) A) args s mc ms A) A g n 0 0 ws (lv_args 0 av) 0 []) : cI l g y cc n ret f lo mc ms av ws P := by
  intro sz
  refine Met.ofW (cc := cc) (maxL := n) (ret := ret) hy rfl ?_
  intro p e s m args below meth c s₁ B hml hv
  obtain ⟨rfl, hsz, hP, hK, hD0⟩ := hv
  subst hsz
  have hts := atoms_spec (ws := Cond.code y cc n ret :: wsL_law0) B.pre
  rw [lg_entry_eq]
  exact body p e s m _ below meth c (va_A ws s.heap.size) ⟨B.exec, B.bytes, hml, findClass_of_methodNamed B.named, fun w h => hts w (List.mem_cons_of_mem _ h), hK, fun q h => Or.inr h, B.notSynchronized⟩ B.returns (name_of_methodNamed B.named B.method).1 _ _ _ hP hD0.self va_S.rf (lv_entry av hn)
theorem cL.of {y : MethodName} {n f lo mc ms : Nat} {ret : Option FieldType} {av : List Value} {P : Int64 → va_W → Prop} (hy : plainName y.cls = true) (hn : (lg_sl av).length ≤ n)
    (body : ∀ (p : Program) (e : Env) (s : State) (m : MethodId) (args : Array Value) (below : List Frame) (meth : Method) (c : Code) (A : Nat → Prop), Cx p s m meth c args cc n y.cls A g → meth.sig.returnType = ret → meth.name = y.name →
      Wk p l e (rm4 f lo mc ms) s m args below meth c (MQ below (va_Ql P (kPost g A) A) args s mc ms A) A g n 0 0 ws (lv_args 0 av) 0 []) : cL l g y cc n ret f lo mc ms av ws P := by
  intro sz
  refine Met.ofW (cc := cc) (maxL := n) (ret := ret) hy rfl ?_
  intro p e s m args below meth c s₁ B hml hv
  obtain ⟨rfl, hsz, hP, hK, hD0⟩ := hv
  subst hsz
  have hts := atoms_spec (ws := Cond.code y cc n ret :: wsL_law0) B.pre
  rw [lg_entry_eq]
  exact body p e s m _ below meth c (va_A ws s.heap.size) ⟨B.exec, B.bytes, hml, findClass_of_methodNamed B.named, fun w h => hts w (List.mem_cons_of_mem _ h), hK, fun q h => Or.inr h, B.notSynchronized⟩ B.returns (name_of_methodNamed B.named B.method).1 _ _ _ hP hD0.self va_S.rf (lv_entry av hn)
theorem cV.of {y : MethodName} {n f lo mc ms : Nat} {av : List Value} {P : va_W → Prop} (hy : plainName y.cls = true) (hn : (lg_sl av).length ≤ n)
    (body : ∀ (p : Program) (e : Env) (s : State) (m : MethodId) (args : Array Value) (below : List Frame) (meth : Method) (c : Code) (A : Nat → Prop), Cx p s m meth c args cc n y.cls A g → meth.sig.returnType = none → meth.name = y.name →
      Wk p l e (rm4 f lo mc ms) s m args below meth c (MQ below (va_Qv P (kPost g A) A) args s mc ms A) A g n 0 0 ws (lv_args 0 av) 0 []) : cV l g y cc n f lo mc ms av ws P := by
  intro sz
  refine Met.ofW (cc := cc) (maxL := n) (ret := none) hy rfl ?_
  intro p e s m args below meth c s₁ B hml hv
  obtain ⟨rfl, hsz, hP, hK, hD0⟩ := hv
  subst hsz
  have hts := atoms_spec (ws := Cond.code y cc n none :: wsL_law0) B.pre
  rw [lg_entry_eq]
  exact body p e s m _ below meth c (va_A ws s.heap.size) ⟨B.exec, B.bytes, hml, findClass_of_methodNamed B.named, fun w h => hts w (List.mem_cons_of_mem _ h), hK, fun q h => Or.inr h, B.notSynchronized⟩ B.returns (name_of_methodNamed B.named B.method).1 _ _ _ hP hD0.self va_S.rf (lv_entry av hn)
theorem k_iret {mc ms : Nat} {P : Int32 → va_W → Prop} {v : Int32} {w : va_W} (X : Cx p s m meth c args cc nL own A g) (hr : meth.sig.returnType = some .int) (hd : decode cc pc = .ok (.ireturn, 1)) (h1 : n1 ≤ mc) (h2 : n2 ≤ ms) (is : List Nat) (hn : va_nd is = true) (hs1 : is.filterMap (fun i => ws[i]?) = w) (hs2 : is.map (fun i => ws[i]?) = w.map some) (hp : P v w) : Wk p l e R s m args below meth c (MQ below (va_Qi P (kPost g A) A) args s mc ms A) A g nL n1 n2 ws lv pc [.int v] := by
  intro H locs ls hP hD hS hl
  refine W.widen h1 h2 ?_
  exact W.iret X.1 X.2.1 hr (fun t ht hW => ⟨⟨v, w, rfl, hp, by rw [ht]; exact hP.sub is hs1, hD.sub is hn hs2⟩, hS.F ht⟩) hS.2.2 hd X.2.2.2.2.2.2.2
theorem k_zret {mc ms : Nat} {P : Int32 → va_W → Prop} {v : Int32} {w : va_W} {ty : FieldType} (X : Cx p s m meth c args cc nL own A g) (hr : meth.sig.returnType = some ty) (hna : narrow ty (.int v) = .int v) (hd : decode cc pc = .ok (.ireturn, 1)) (h1 : n1 ≤ mc) (h2 : n2 ≤ ms) (is : List Nat) (hn : va_nd is = true) (hs1 : is.filterMap (fun i => ws[i]?) = w) (hs2 : is.map (fun i => ws[i]?) = w.map some) (hp : P v w) : Wk p l e R s m args below meth c (MQ below (va_Qi P (kPost g A) A) args s mc ms A) A g nL n1 n2 ws lv pc [.int v] := by
  intro H locs ls hP hD hS hl
  refine W.widen h1 h2 ?_
  exact W.zret X.1 X.2.1 hr hna (fun t ht hW => ⟨⟨v, w, rfl, hp, by rw [ht]; exact hP.sub is hs1, hD.sub is hn hs2⟩, hS.F ht⟩) hS.2.2 hd X.2.2.2.2.2.2.2
theorem k_lret {mc ms : Nat} {P : Int64 → va_W → Prop} {v : Int64} {w : va_W} (X : Cx p s m meth c args cc nL own A g) (hr : meth.sig.returnType = some .long) (hd : decode cc pc = .ok (.lreturn, 1)) (h1 : n1 ≤ mc) (h2 : n2 ≤ ms) (is : List Nat) (hn : va_nd is = true) (hs1 : is.filterMap (fun i => ws[i]?) = w) (hs2 : is.map (fun i => ws[i]?) = w.map some) (hp : P v w) : Wk p l e R s m args below meth c (MQ below (va_Ql P (kPost g A) A) args s mc ms A) A g nL n1 n2 ws lv pc [.long v] := by
  intro H locs ls hP hD hS hl
  refine W.widen h1 h2 ?_
  exact W.lret X.1 X.2.1 hr (fun t ht hW => ⟨⟨v, w, rfl, hp, by rw [ht]; exact hP.sub is hs1, hD.sub is hn hs2⟩, hS.F ht⟩) hS.2.2 hd X.2.2.2.2.2.2.2
theorem k_vret {mc ms : Nat} {P : va_W → Prop} {w : va_W} (X : Cx p s m meth c args cc nL own A g) (hr : meth.sig.returnType = none) (hd : decode cc pc = .ok (.return_, 1)) (h1 : n1 ≤ mc) (h2 : n2 ≤ ms) (is : List Nat) (hn : va_nd is = true) (hs1 : is.filterMap (fun i => ws[i]?) = w) (hs2 : is.map (fun i => ws[i]?) = w.map some) (hp : P w) : Wk p l e R s m args below meth c (MQ below (va_Qv P (kPost g A) A) args s mc ms A) A g nL n1 n2 ws lv pc [] := by
  intro H locs ls hP hD hS hl
  refine W.widen h1 h2 ?_
  exact W.vret X.1 X.2.1 hr (fun t ht hW => ⟨⟨w, rfl, hp, by rw [ht]; exact hP.sub is hs1, hD.sub is hn hs2⟩, hS.F ht⟩) hS.2.2 hd X.2.2.2.2.2.2.2
theorem k_aload_n {k : Fin 4} {a : Nat} (X : Cx p s m meth c args cc nL own A g) (hd : decode cc pc = .ok (.aload_n k, 1)) (j : Nat) (hj : lv[j]? = some ((k : Nat), .ref a)) (kk : Wk p l e R s m args below meth c Q A g nL n1 n2 ws lv (pc + 1) (.ref a :: st)) : Wk p l e R s m args below meth c Q A g nL n1 n2 ws lv pc st := fun H locs ls hP hD hS hl => lv_aload_n X.1 X.2.1 hd rfl (lv_at hl j hj) (kk H locs ls hP hD hS hl)
theorem k_aload {i a : Nat} (X : Cx p s m meth c args cc nL own A g) (hd : decode cc pc = .ok (.aload i, 2)) (j : Nat) (hj : lv[j]? = some (i, .ref a)) (kk : Wk p l e R s m args below meth c Q A g nL n1 n2 ws lv (pc + 2) (.ref a :: st)) : Wk p l e R s m args below meth c Q A g nL n1 n2 ws lv pc st := fun H locs ls hP hD hS hl => lv_aload X.1 X.2.1 hd (lv_at hl j hj) (kk H locs ls hP hD hS hl)
theorem k_iload_n {k : Fin 4} {x : Int32} (X : Cx p s m meth c args cc nL own A g) (hd : decode cc pc = .ok (.iload_n k, 1)) (j : Nat) (hj : lv[j]? = some ((k : Nat), .int x)) (kk : Wk p l e R s m args below meth c Q A g nL n1 n2 ws lv (pc + 1) (.int x :: st)) : Wk p l e R s m args below meth c Q A g nL n1 n2 ws lv pc st := fun H locs ls hP hD hS hl => lv_iload_n X.1 X.2.1 hd rfl (lv_at hl j hj) (kk H locs ls hP hD hS hl)
theorem k_iload {i : Nat} {x : Int32} (X : Cx p s m meth c args cc nL own A g) (hd : decode cc pc = .ok (.iload i, 2)) (j : Nat) (hj : lv[j]? = some (i, .int x)) (kk : Wk p l e R s m args below meth c Q A g nL n1 n2 ws lv (pc + 2) (.int x :: st)) : Wk p l e R s m args below meth c Q A g nL n1 n2 ws lv pc st := fun H locs ls hP hD hS hl => lv_iload X.1 X.2.1 hd (lv_at hl j hj) (kk H locs ls hP hD hS hl)
theorem k_lload_n {k : Fin 4} {x : Int64} (X : Cx p s m meth c args cc nL own A g) (hd : decode cc pc = .ok (.lload_n k, 1)) (j : Nat) (hj : lv[j]? = some ((k : Nat), .long x)) (kk : Wk p l e R s m args below meth c Q A g nL n1 n2 ws lv (pc + 1) (.long x :: st)) : Wk p l e R s m args below meth c Q A g nL n1 n2 ws lv pc st := fun H locs ls hP hD hS hl => lv_lload_n X.1 X.2.1 hd rfl (lv_at hl j hj) (kk H locs ls hP hD hS hl)
theorem k_lload {i : Nat} {x : Int64} (X : Cx p s m meth c args cc nL own A g) (hd : decode cc pc = .ok (.lload i, 2)) (j : Nat) (hj : lv[j]? = some (i, .long x)) (kk : Wk p l e R s m args below meth c Q A g nL n1 n2 ws lv (pc + 2) (.long x :: st)) : Wk p l e R s m args below meth c Q A g nL n1 n2 ws lv pc st := fun H locs ls hP hD hS hl => lv_lload X.1 X.2.1 hd (lv_at hl j hj) (kk H locs ls hP hD hS hl)
theorem k_iconst {n : Int} {v : Int32} (X : Cx p s m meth c args cc nL own A g) (hd : decode cc pc = .ok (.iconst n, 1)) (hv : Int32.ofInt n = v) (kk : Wk p l e R s m args below meth c Q A g nL n1 n2 ws lv (pc + 1) (.int v :: st)) : Wk p l e R s m args below meth c Q A g nL n1 n2 ws lv pc st := fun H locs ls hP hD hS hl => lv_iconst X.1 X.2.1 hd hv (kk H locs ls hP hD hS hl)
theorem k_bipush {n : Int} {v : Int32} (X : Cx p s m meth c args cc nL own A g) (hd : decode cc pc = .ok (.bipush n, 2)) (hv : (Int8.ofInt n).toInt32 = v) (kk : Wk p l e R s m args below meth c Q A g nL n1 n2 ws lv (pc + 2) (.int v :: st)) : Wk p l e R s m args below meth c Q A g nL n1 n2 ws lv pc st := fun H locs ls hP hD hS hl => lv_bipush X.1 X.2.1 hd hv (kk H locs ls hP hD hS hl)
theorem k_sipush {n : Int} {v : Int32} (X : Cx p s m meth c args cc nL own A g) (hd : decode cc pc = .ok (.sipush n, 3)) (hv : (Int16.ofInt n).toInt32 = v) (kk : Wk p l e R s m args below meth c Q A g nL n1 n2 ws lv (pc + 3) (.int v :: st)) : Wk p l e R s m args below meth c Q A g nL n1 n2 ws lv pc st := fun H locs ls hP hD hS hl => lv_sipush X.1 X.2.1 hd hv (kk H locs ls hP hD hS hl)
theorem k_lconst {n : Fin 2} {v : Int64} (X : Cx p s m meth c args cc nL own A g) (hd : decode cc pc = .ok (.lconst n, 1)) (hv : Int64.ofNat (n : Nat) = v) (kk : Wk p l e R s m args below meth c Q A g nL n1 n2 ws lv (pc + 1) (.long v :: st)) : Wk p l e R s m args below meth c Q A g nL n1 n2 ws lv pc st := fun H locs ls hP hD hS hl => lv_lconst X.1 X.2.1 hd hv (kk H locs ls hP hD hS hl)
theorem k_ldc {i : Nat} {v : Int32} (X : Cx p s m meth c args cc nL own A g) (hd : decode cc pc = .ok (.ldc i, 2)) (hm : Cond.constant own i v ∈ wsL_law0) (kk : Wk p l e R s m args below meth c Q A g nL n1 n2 ws lv (pc + 2) (.int v :: st)) : Wk p l e R s m args below meth c Q A g nL n1 n2 ws lv pc st := fun H locs ls hP hD hS hl => lv_ldc X.1 X.2.1 X.2.2.2.1 (X.2.2.2.2.1 _ hm) hd (kk H locs ls hP hD hS hl)
theorem k_ldc2 {i : Nat} {v : Int64} (X : Cx p s m meth c args cc nL own A g) (hd : decode cc pc = .ok (.ldc2_w i, 3)) (hm : Cond.constantLong own i v ∈ wsL_law0) (kk : Wk p l e R s m args below meth c Q A g nL n1 n2 ws lv (pc + 3) (.long v :: st)) : Wk p l e R s m args below meth c Q A g nL n1 n2 ws lv pc st := fun H locs ls hP hD hS hl => lv_ldc2 X.1 X.2.1 X.2.2.2.1 (X.2.2.2.2.1 _ hm) hd (kk H locs ls hP hD hS hl)
theorem k_ldcS {i : Nat} {tx : String} (X : Cx p s m meth c args cc nL own A g) (hd : decode cc pc = .ok (.ldc i, 2)) (hm : (own, i, tx) ∈ strL) (kk : ∀ a : Nat, Wk p l e R s m args below meth c Q A g nL n1 n2 ws lv (pc + 2) (.ref a :: st)) : Wk p l e R s m args below meth c Q A g nL n1 n2 ws lv pc st := by
  intro H locs ls hP hD hS hl
  obtain ⟨a, ha⟩ := X.2.2.2.2.2.1.2.2.1 _ hm
  exact va_ldcS X.1 X.2.1 X.2.2.2.1 ha hd (kk a H locs ls hP hD hS hl)
theorem k_iadd {x y : Int32} (X : Cx p s m meth c args cc nL own A g) (hd : decode cc pc = .ok (.iadd, 1)) (kk : Wk p l e R s m args below meth c Q A g nL n1 n2 ws lv (pc + 1) (.int (x + y) :: st)) : Wk p l e R s m args below meth c Q A g nL n1 n2 ws lv pc (.int y :: .int x :: st) := fun H locs ls hP hD hS hl => lv_iadd X.1 X.2.1 hd (kk H locs ls hP hD hS hl)
theorem k_isub {x y : Int32} (X : Cx p s m meth c args cc nL own A g) (hd : decode cc pc = .ok (.isub, 1)) (kk : Wk p l e R s m args below meth c Q A g nL n1 n2 ws lv (pc + 1) (.int (x - y) :: st)) : Wk p l e R s m args below meth c Q A g nL n1 n2 ws lv pc (.int y :: .int x :: st) := fun H locs ls hP hD hS hl => lv_isub X.1 X.2.1 hd (kk H locs ls hP hD hS hl)
theorem k_imul {x y : Int32} (X : Cx p s m meth c args cc nL own A g) (hd : decode cc pc = .ok (.imul, 1)) (kk : Wk p l e R s m args below meth c Q A g nL n1 n2 ws lv (pc + 1) (.int (x * y) :: st)) : Wk p l e R s m args below meth c Q A g nL n1 n2 ws lv pc (.int y :: .int x :: st) := fun H locs ls hP hD hS hl => lv_imul X.1 X.2.1 hd (kk H locs ls hP hD hS hl)
theorem k_iand {x y : Int32} (X : Cx p s m meth c args cc nL own A g) (hd : decode cc pc = .ok (.iand, 1)) (kk : Wk p l e R s m args below meth c Q A g nL n1 n2 ws lv (pc + 1) (.int (x &&& y) :: st)) : Wk p l e R s m args below meth c Q A g nL n1 n2 ws lv pc (.int y :: .int x :: st) := fun H locs ls hP hD hS hl => lv_iand X.1 X.2.1 hd (kk H locs ls hP hD hS hl)
theorem k_ior {x y : Int32} (X : Cx p s m meth c args cc nL own A g) (hd : decode cc pc = .ok (.ior, 1)) (kk : Wk p l e R s m args below meth c Q A g nL n1 n2 ws lv (pc + 1) (.int (x ||| y) :: st)) : Wk p l e R s m args below meth c Q A g nL n1 n2 ws lv pc (.int y :: .int x :: st) := fun H locs ls hP hD hS hl => lv_ior X.1 X.2.1 hd (kk H locs ls hP hD hS hl)
theorem k_ixor {x y : Int32} (X : Cx p s m meth c args cc nL own A g) (hd : decode cc pc = .ok (.ixor, 1)) (kk : Wk p l e R s m args below meth c Q A g nL n1 n2 ws lv (pc + 1) (.int (x ^^^ y) :: st)) : Wk p l e R s m args below meth c Q A g nL n1 n2 ws lv pc (.int y :: .int x :: st) := fun H locs ls hP hD hS hl => lv_ixor X.1 X.2.1 hd (kk H locs ls hP hD hS hl)
theorem k_ishl {x y : Int32} (X : Cx p s m meth c args cc nL own A g) (hd : decode cc pc = .ok (.ishl, 1)) (kk : Wk p l e R s m args below meth c Q A g nL n1 n2 ws lv (pc + 1) (.int (x <<< (y &&& 31)) :: st)) : Wk p l e R s m args below meth c Q A g nL n1 n2 ws lv pc (.int y :: .int x :: st) := fun H locs ls hP hD hS hl => lv_ishl X.1 X.2.1 hd (kk H locs ls hP hD hS hl)
theorem k_ishr {x y : Int32} (X : Cx p s m meth c args cc nL own A g) (hd : decode cc pc = .ok (.ishr, 1)) (kk : Wk p l e R s m args below meth c Q A g nL n1 n2 ws lv (pc + 1) (.int (x >>> (y &&& 31)) :: st)) : Wk p l e R s m args below meth c Q A g nL n1 n2 ws lv pc (.int y :: .int x :: st) := fun H locs ls hP hD hS hl => lv_ishr X.1 X.2.1 hd (kk H locs ls hP hD hS hl)
theorem k_i2l {x : Int32} (X : Cx p s m meth c args cc nL own A g) (hd : decode cc pc = .ok (.i2l, 1)) (kk : Wk p l e R s m args below meth c Q A g nL n1 n2 ws lv (pc + 1) (.long x.toInt64 :: st)) : Wk p l e R s m args below meth c Q A g nL n1 n2 ws lv pc (.int x :: st) := fun H locs ls hP hD hS hl => lv_i2l X.1 X.2.1 hd rfl (kk H locs ls hP hD hS hl)
theorem k_nm {x : Int32} (kk : ∀ y : Int32, y = x → Wk p l e R s m args below meth c Q A g nL n1 n2 ws lv pc (.int y :: st)) : Wk p l e R s m args below meth c Q A g nL n1 n2 ws lv pc (.int x :: st) := kk x rfl
theorem k_to {x : Int32} (y : Int32) (h : x = y) (kk : Wk p l e R s m args below meth c Q A g nL n1 n2 ws lv pc (.int y :: st)) : Wk p l e R s m args below meth c Q A g nL n1 n2 ws lv pc (.int x :: st) := by rw [h]; exact kk
theorem k_dup {v : Value} (X : Cx p s m meth c args cc nL own A g) (hd : decode cc pc = .ok (.dup, 1)) (hc : v.category = 1) (kk : Wk p l e R s m args below meth c Q A g nL n1 n2 ws lv (pc + 1) (v :: v :: st)) : Wk p l e R s m args below meth c Q A g nL n1 n2 ws lv pc (v :: st) := fun H locs ls hP hD hS hl => lv_dup X.1 X.2.1 hd hc (kk H locs ls hP hD hS hl)
theorem k_pop {v : Value} (X : Cx p s m meth c args cc nL own A g) (hd : decode cc pc = .ok (.pop, 1)) (hc : v.category = 1) (kk : Wk p l e R s m args below meth c Q A g nL n1 n2 ws lv (pc + 1) st) : Wk p l e R s m args below meth c Q A g nL n1 n2 ws lv pc (v :: st) := fun H locs ls hP hD hS hl => lv_pop X.1 X.2.1 hd hc (kk H locs ls hP hD hS hl)
theorem k_if_eq {x : Int32} {off : Int} (tgt : Nat) (X : Cx p s m meth c args cc nL own A g) (hd : decode cc pc = .ok (.ifCond .eq off, 3)) (ht : (pc : Int) + off = (tgt : Int)) (kt : x = 0 → Wk p l e R s m args below meth c Q A g nL n1 n2 ws lv tgt st) (kf : ¬ (x = 0) → Wk p l e R s m args below meth c Q A g nL n1 n2 ws lv (pc + 3) st) : Wk p l e R s m args below meth c Q A g nL n1 n2 ws lv pc (.int x :: st) := fun H locs ls hP hD hS hl => lv_if_eq X.1 X.2.1 hd ht (fun q => kt q H locs ls hP hD hS hl) (fun q => kf q H locs ls hP hD hS hl)
theorem k_if_ne {x : Int32} {off : Int} (tgt : Nat) (X : Cx p s m meth c args cc nL own A g) (hd : decode cc pc = .ok (.ifCond .ne off, 3)) (ht : (pc : Int) + off = (tgt : Int)) (kt : x ≠ 0 → Wk p l e R s m args below meth c Q A g nL n1 n2 ws lv tgt st) (kf : x = 0 → Wk p l e R s m args below meth c Q A g nL n1 n2 ws lv (pc + 3) st) : Wk p l e R s m args below meth c Q A g nL n1 n2 ws lv pc (.int x :: st) := fun H locs ls hP hD hS hl => lv_if_ne X.1 X.2.1 hd ht (fun q => kt q H locs ls hP hD hS hl) (fun q => kf q H locs ls hP hD hS hl)
theorem k_if_lt {x : Int32} {off : Int} (tgt : Nat) (X : Cx p s m meth c args cc nL own A g) (hd : decode cc pc = .ok (.ifCond .lt off, 3)) (ht : (pc : Int) + off = (tgt : Int)) (kt : x < 0 → Wk p l e R s m args below meth c Q A g nL n1 n2 ws lv tgt st) (kf : ¬ (x < 0) → Wk p l e R s m args below meth c Q A g nL n1 n2 ws lv (pc + 3) st) : Wk p l e R s m args below meth c Q A g nL n1 n2 ws lv pc (.int x :: st) := fun H locs ls hP hD hS hl => lv_if_lt X.1 X.2.1 hd ht (fun q => kt q H locs ls hP hD hS hl) (fun q => kf q H locs ls hP hD hS hl)
theorem k_if_ge {x : Int32} {off : Int} (tgt : Nat) (X : Cx p s m meth c args cc nL own A g) (hd : decode cc pc = .ok (.ifCond .ge off, 3)) (ht : (pc : Int) + off = (tgt : Int)) (kt : 0 ≤ x → Wk p l e R s m args below meth c Q A g nL n1 n2 ws lv tgt st) (kf : ¬ (0 ≤ x) → Wk p l e R s m args below meth c Q A g nL n1 n2 ws lv (pc + 3) st) : Wk p l e R s m args below meth c Q A g nL n1 n2 ws lv pc (.int x :: st) := fun H locs ls hP hD hS hl => lv_if_ge X.1 X.2.1 hd ht (fun q => kt q H locs ls hP hD hS hl) (fun q => kf q H locs ls hP hD hS hl)
theorem k_if_gt {x : Int32} {off : Int} (tgt : Nat) (X : Cx p s m meth c args cc nL own A g) (hd : decode cc pc = .ok (.ifCond .gt off, 3)) (ht : (pc : Int) + off = (tgt : Int)) (kt : 0 < x → Wk p l e R s m args below meth c Q A g nL n1 n2 ws lv tgt st) (kf : ¬ (0 < x) → Wk p l e R s m args below meth c Q A g nL n1 n2 ws lv (pc + 3) st) : Wk p l e R s m args below meth c Q A g nL n1 n2 ws lv pc (.int x :: st) := fun H locs ls hP hD hS hl => lv_if_gt X.1 X.2.1 hd ht (fun q => kt q H locs ls hP hD hS hl) (fun q => kf q H locs ls hP hD hS hl)
theorem k_if_le {x : Int32} {off : Int} (tgt : Nat) (X : Cx p s m meth c args cc nL own A g) (hd : decode cc pc = .ok (.ifCond .le off, 3)) (ht : (pc : Int) + off = (tgt : Int)) (kt : x ≤ 0 → Wk p l e R s m args below meth c Q A g nL n1 n2 ws lv tgt st) (kf : ¬ (x ≤ 0) → Wk p l e R s m args below meth c Q A g nL n1 n2 ws lv (pc + 3) st) : Wk p l e R s m args below meth c Q A g nL n1 n2 ws lv pc (.int x :: st) := fun H locs ls hP hD hS hl => lv_if_le X.1 X.2.1 hd ht (fun q => kt q H locs ls hP hD hS hl) (fun q => kf q H locs ls hP hD hS hl)
theorem k_ic_eq {x y : Int32} {off : Int} (tgt : Nat) (X : Cx p s m meth c args cc nL own A g) (hd : decode cc pc = .ok (.if_icmp .eq off, 3)) (ht : (pc : Int) + off = (tgt : Int)) (kt : x = y → Wk p l e R s m args below meth c Q A g nL n1 n2 ws lv tgt st) (kf : ¬ (x = y) → Wk p l e R s m args below meth c Q A g nL n1 n2 ws lv (pc + 3) st) : Wk p l e R s m args below meth c Q A g nL n1 n2 ws lv pc (.int y :: .int x :: st) := fun H locs ls hP hD hS hl => lv_icmp_eq X.1 X.2.1 hd ht (fun q => kt q H locs ls hP hD hS hl) (fun q => kf q H locs ls hP hD hS hl)
theorem k_ic_ne {x y : Int32} {off : Int} (tgt : Nat) (X : Cx p s m meth c args cc nL own A g) (hd : decode cc pc = .ok (.if_icmp .ne off, 3)) (ht : (pc : Int) + off = (tgt : Int)) (kt : x ≠ y → Wk p l e R s m args below meth c Q A g nL n1 n2 ws lv tgt st) (kf : x = y → Wk p l e R s m args below meth c Q A g nL n1 n2 ws lv (pc + 3) st) : Wk p l e R s m args below meth c Q A g nL n1 n2 ws lv pc (.int y :: .int x :: st) := fun H locs ls hP hD hS hl => lv_icmp_ne X.1 X.2.1 hd ht (fun q => kt q H locs ls hP hD hS hl) (fun q => kf q H locs ls hP hD hS hl)
theorem k_ic_lt {x y : Int32} {off : Int} (tgt : Nat) (X : Cx p s m meth c args cc nL own A g) (hd : decode cc pc = .ok (.if_icmp .lt off, 3)) (ht : (pc : Int) + off = (tgt : Int)) (kt : x < y → Wk p l e R s m args below meth c Q A g nL n1 n2 ws lv tgt st) (kf : ¬ (x < y) → Wk p l e R s m args below meth c Q A g nL n1 n2 ws lv (pc + 3) st) : Wk p l e R s m args below meth c Q A g nL n1 n2 ws lv pc (.int y :: .int x :: st) := fun H locs ls hP hD hS hl => lv_icmp_lt X.1 X.2.1 hd ht (fun q => kt q H locs ls hP hD hS hl) (fun q => kf q H locs ls hP hD hS hl)
theorem k_ic_ge {x y : Int32} {off : Int} (tgt : Nat) (X : Cx p s m meth c args cc nL own A g) (hd : decode cc pc = .ok (.if_icmp .ge off, 3)) (ht : (pc : Int) + off = (tgt : Int)) (kt : y ≤ x → Wk p l e R s m args below meth c Q A g nL n1 n2 ws lv tgt st) (kf : ¬ (y ≤ x) → Wk p l e R s m args below meth c Q A g nL n1 n2 ws lv (pc + 3) st) : Wk p l e R s m args below meth c Q A g nL n1 n2 ws lv pc (.int y :: .int x :: st) := fun H locs ls hP hD hS hl => lv_icmp_ge X.1 X.2.1 hd ht (fun q => kt q H locs ls hP hD hS hl) (fun q => kf q H locs ls hP hD hS hl)
theorem k_ic_gt {x y : Int32} {off : Int} (tgt : Nat) (X : Cx p s m meth c args cc nL own A g) (hd : decode cc pc = .ok (.if_icmp .gt off, 3)) (ht : (pc : Int) + off = (tgt : Int)) (kt : y < x → Wk p l e R s m args below meth c Q A g nL n1 n2 ws lv tgt st) (kf : ¬ (y < x) → Wk p l e R s m args below meth c Q A g nL n1 n2 ws lv (pc + 3) st) : Wk p l e R s m args below meth c Q A g nL n1 n2 ws lv pc (.int y :: .int x :: st) := fun H locs ls hP hD hS hl => lv_icmp_gt X.1 X.2.1 hd ht (fun q => kt q H locs ls hP hD hS hl) (fun q => kf q H locs ls hP hD hS hl)
theorem k_ic_le {x y : Int32} {off : Int} (tgt : Nat) (X : Cx p s m meth c args cc nL own A g) (hd : decode cc pc = .ok (.if_icmp .le off, 3)) (ht : (pc : Int) + off = (tgt : Int)) (kt : x ≤ y → Wk p l e R s m args below meth c Q A g nL n1 n2 ws lv tgt st) (kf : ¬ (x ≤ y) → Wk p l e R s m args below meth c Q A g nL n1 n2 ws lv (pc + 3) st) : Wk p l e R s m args below meth c Q A g nL n1 n2 ws lv pc (.int y :: .int x :: st) := fun H locs ls hP hD hS hl => lv_icmp_le X.1 X.2.1 hd ht (fun q => kt q H locs ls hP hD hS hl) (fun q => kf q H locs ls hP hD hS hl)
theorem k_goto {off : Int} (tgt : Nat) (X : Cx p s m meth c args cc nL own A g) (hd : decode cc pc = .ok (.goto off, 3)) (ht : (pc : Int) + off = (tgt : Int)) (kk : Wk p l e R s m args below meth c Q A g nL n1 n2 ws lv tgt st) : Wk p l e R s m args below meth c Q A g nL n1 n2 ws lv pc st := fun H locs ls hP hD hS hl => lv_goto X.1 X.2.1 hd ht (kk H locs ls hP hD hS hl)
theorem k_istore_n {k : Fin 4} {x : Int32} (lv' : List (Nat × Value)) (X : Cx p s m meth c args cc nL own A g) (hd : decode cc pc = .ok (.istore_n k, 1)) (hn : (k : Nat) < nL) (hv : ((k : Nat), Value.int x) :: lv.filter (fun q => !(q.1 == (k : Nat)) && !(q.1 + 1 == (k : Nat) && q.2.category == 2)) = lv') (kk : Wk p l e R s m args below meth c Q A g nL n1 n2 ws lv' (pc + 1) st) : Wk p l e R s m args below meth c Q A g nL n1 n2 ws lv pc (.int x :: st) := fun H locs ls hP hD hS hl => lv_istore_n X.1 X.2.1 hd rfl hl hn hv (fun ls hl => kk H locs ls hP hD hS hl)
theorem k_astore_n {k : Fin 4} {x : Nat} (lv' : List (Nat × Value)) (X : Cx p s m meth c args cc nL own A g) (hd : decode cc pc = .ok (.astore_n k, 1)) (hn : (k : Nat) < nL) (hv : ((k : Nat), Value.ref x) :: lv.filter (fun q => !(q.1 == (k : Nat)) && !(q.1 + 1 == (k : Nat) && q.2.category == 2)) = lv') (kk : Wk p l e R s m args below meth c Q A g nL n1 n2 ws lv' (pc + 1) st) : Wk p l e R s m args below meth c Q A g nL n1 n2 ws lv pc (.ref x :: st) := fun H locs ls hP hD hS hl => lv_astore_n X.1 X.2.1 hd rfl hl hn hv (fun ls hl => kk H locs ls hP hD hS hl)
theorem k_istore {i : Nat} {x : Int32} (lv' : List (Nat × Value)) (X : Cx p s m meth c args cc nL own A g) (hd : decode cc pc = .ok (.istore i, 2)) (hn : i < nL) (hv : (i, Value.int x) :: lv.filter (fun q => !(q.1 == i) && !(q.1 + 1 == i && q.2.category == 2)) = lv') (kk : Wk p l e R s m args below meth c Q A g nL n1 n2 ws lv' (pc + 2) st) : Wk p l e R s m args below meth c Q A g nL n1 n2 ws lv pc (.int x :: st) := fun H locs ls hP hD hS hl => lv_istore X.1 X.2.1 hd hl hn hv (fun ls hl => kk H locs ls hP hD hS hl)
theorem k_astore {i : Nat} {x : Nat} (lv' : List (Nat × Value)) (X : Cx p s m meth c args cc nL own A g) (hd : decode cc pc = .ok (.astore i, 2)) (hn : i < nL) (hv : (i, Value.ref x) :: lv.filter (fun q => !(q.1 == i) && !(q.1 + 1 == i && q.2.category == 2)) = lv') (kk : Wk p l e R s m args below meth c Q A g nL n1 n2 ws lv' (pc + 2) st) : Wk p l e R s m args below meth c Q A g nL n1 n2 ws lv pc (.ref x :: st) := fun H locs ls hP hD hS hl => lv_astore X.1 X.2.1 hd hl hn hv (fun ls hl => kk H locs ls hP hD hS hl)
theorem k_iinc {i : Nat} {n : Int} {x : Int32} (v : Int32) (lv' : List (Nat × Value)) (j : Nat) (X : Cx p s m meth c args cc nL own A g) (hd : decode cc pc = .ok (.iinc i n, 3)) (hj : lv[j]? = some (i, .int x)) (hv : x + Int32.ofInt n = v) (hn : i < nL) (hl' : (i, Value.int v) :: lv.filter (fun q => !(q.1 == i) && !(q.1 + 1 == i && q.2.category == 2)) = lv') (kk : Wk p l e R s m args below meth c Q A g nL n1 n2 ws lv' (pc + 3) st) : Wk p l e R s m args below meth c Q A g nL n1 n2 ws lv pc st := fun H locs ls hP hD hS hl => lv_iinc X.1 X.2.1 hd hl hj hv hn hl' (fun ls hl => kk H locs ls hP hD hS hl)
theorem k_get {C : String} {T : u_T} {N ci i a : Nat} {fs : List Value} {v : Value} (X : Cx p s m meth c args cc nL own A g) (hin : ∀ w ∈ u_ws C T N, w ∈ wsL_law0) (hc : vwCl[ci]? = some (C, T, N)) (k : Nat) (hk : k < N) (hd : decode cc pc = .ok (.getfield i, 3)) (hm : Cond.fieldLink own i (T k).1 (T k).2.1 (T k).2.2.1 ∈ wsL_law0) (q : Nat) (he : ws[q]? = some (a, .inr (ci, fs))) (hv : fs[k]? = some v) (kk : Wk p l e R s m args below meth c Q A g nL n1 n2 ws lv (pc + 3) (v :: st)) : Wk p l e R s m args below meth c Q A g nL n1 n2 ws lv pc (.ref a :: st) :=
  fun H locs ls hP hD hS hl => va_get (D := g.1) (cl := vwCl) X.1 X.2.1 X.2.2.2.2.1 hin X.2.2.2.1 X.2.2.2.2.2.1.1 hP q he hc k hk (X.2.2.2.2.1 _ hm) (fun _ h9 => h9) hv hd (kk H locs ls hP hD hS hl)
theorem k_put {C : String} {T : u_T} {N ci i a : Nat} {fs : List Value} {v : Value} {ty0 : Nat → FieldType} (ws' : va_W) (X : Cx p s m meth c args cc nL own A g) (hin : ∀ w ∈ u_ws C T N, w ∈ wsL_law0) (hc : vwCl[ci]? = some (C, T, N)) (hty : ∀ k, k < N → parseFieldDescriptor (T k).2.2.1 = some (ty0 k)) (hnm : ∀ a, a < N → ∀ b, b < N → a ≠ b → (T a).2.1 ≠ (T b).2.1) (k : Nat) (hk : k < N) (hfin : (T k).2.2.2 = false) (hd : decode cc pc = .ok (.putfield i, 3)) (hm : Cond.fieldLink own i (T k).1 (T k).2.1 (T k).2.2.1 ∈ wsL_law0) (q : Nat) (he : ws[q]? = some (a, .inr (ci, fs))) (hn : narrow (ty0 k) v = v) (hfit : fits (ty0 k) v = true) (hl0 : k < fs.length) (hw : ws.set q (a, .inr (ci, fs.set k v)) = ws') (kk : Wk p l e R s m args below meth c Q A g nL n1 n2 ws' lv (pc + 3) st) : Wk p l e R s m args below meth c Q A g nL n1 n2 ws lv pc (v :: .ref a :: st) := by
  intro H locs ls hP hD hS hl
  subst hw
  exact va_put (D := g.1) (cl := vwCl) (ty := ty0 k) X.1 X.2.1 X.2.2.2.2.1 hin ty0 hty hnm X.2.2.2.1 X.2.2.2.2.2.1.1 hP hD hS q he hc k hk (X.2.2.2.2.1 _ hm) (fun _ h9 => h9) hfin (hty k hk) hn hfit hl0 hd (fun H1 locs1 hP hD hS => kk H1 locs1 ls hP hD hS hl)
theorem k_putF {C : String} {T : u_T} {N ci i a : Nat} {fs : List Value} {v : Value} {ty0 : Nat → FieldType} (ws' : va_W) (X : Cx p s m meth c args cc nL own A g) (hi : meth.name = "<init>") (hin : ∀ w ∈ u_ws C T N, w ∈ wsL_law0) (hc : vwCl[ci]? = some (C, T, N)) (hty : ∀ k, k < N → parseFieldDescriptor (T k).2.2.1 = some (ty0 k)) (hnm : ∀ a, a < N → ∀ b, b < N → a ≠ b → (T a).2.1 ≠ (T b).2.1) (k : Nat) (hk : k < N) (hfin : (T k).2.2.2 = true) (hown : (T k).1 = own) (hd : decode cc pc = .ok (.putfield i, 3)) (hm : Cond.fieldLink own i (T k).1 (T k).2.1 (T k).2.2.1 ∈ wsL_law0) (q : Nat) (he : ws[q]? = some (a, .inr (ci, fs))) (hn : narrow (ty0 k) v = v) (hfit : fits (ty0 k) v = true) (hl0 : k < fs.length) (hw : ws.set q (a, .inr (ci, fs.set k v)) = ws') (kk : Wk p l e R s m args below meth c Q A g nL n1 n2 ws' lv (pc + 3) st) : Wk p l e R s m args below meth c Q A g nL n1 n2 ws lv pc (v :: .ref a :: st) := by
  intro H locs ls hP hD hS hl
  subst hw
  exact va_putF (D := g.1) (cl := vwCl) (ty := ty0 k) X.1 X.2.1 X.2.2.2.2.1 hin ty0 hty hnm X.2.2.2.1 X.2.2.2.2.2.1.1 hP hD hS q he hc k hk (X.2.2.2.2.1 _ hm) (fun _ h9 => h9) hfin hi hown (hty k hk) hn hfit hl0 hd (fun H1 locs1 hP hD hS => kk H1 locs1 ls hP hD hS hl)
theorem k_new {C : String} {T : u_T} {N ci i : Nat} {fs : List Value} {ty0 : Nat → FieldType} (X : Cx p s m meth c args cc nL own A g) (hin : ∀ w ∈ u_ws C T N, w ∈ wsL_law0) (hc : vwCl[ci]? = some (C, T, N)) (hty : ∀ k, k < N → parseFieldDescriptor (T k).2.2.1 = some (ty0 k)) (hd : decode cc pc = .ok (.new i, 3)) (hm : Cond.classLink own i C ∈ wsL_law0) (hm2 : Cond.instantiable C N ∈ wsL_law0) (hm3 : Cond.initialized C ∈ wsL_law0) (hfs : ∀ j, j < N → defaultValue (ty0 j) = vp_V fs j) (h1 : n1 + 1 ≤ R.cells) (h2 : n2 + N ≤ R.slots) (kk : ∀ q : Nat, Wk p l e R s m args below meth c Q A g nL (n1 + 1) (n2 + N) (ws ++ [(q, .inr (ci, fs))]) lv (pc + 3) (.ref q :: st)) : Wk p l e R s m args below meth c Q A g nL n1 n2 ws lv pc st :=
  fun H locs ls hP hD hS hl => va_new (D := g.1) (cl := vwCl) X.1 X.2.1 X.2.2.2.2.1 hin ty0 hty X.2.2.2.1 (X.2.2.2.2.1 _ hm) (X.2.2.2.2.1 _ hm2) (X.2.2.2.2.1 _ hm3) X.2.2.2.2.2.1.1 hP hD hS X.2.2.2.2.2.2.1 hc hfs h1 h2 hd (fun q H1 hP hD hS => kk q H1 locs ls hP hD hS hl)
theorem k_newaI {n : Int32} (N' : Nat) (X : Cx p s m meth c args cc nL own A g) (hd : decode cc pc = .ok (.newarray .int, 2)) (hm : Cond.arrayClass .int ∈ wsL_law0) (hn : ¬ n < 0) (hN : n.toNatClampNeg = N') (hby : N' * componentBytes .int ≤ 536870912) (h1 : n1 + 1 ≤ R.cells) (h2 : n2 + N' ≤ R.slots) (kk : ∀ q : Nat, Wk p l e R s m args below meth c Q A g nL (n1 + 1) (n2 + N') (ws ++ [(q, .inl (g.2.2.1, N', .inl (fun _ => 0)))]) lv (pc + 2) (.ref q :: st)) : Wk p l e R s m args below meth c Q A g nL n1 n2 ws lv pc (.int n :: st) := by
  intro H locs ls hP hD hS hl
  refine va_newa (D := g.1) (cl := vwCl) (atype := .int) (ty := .int) (a0 := (N', .inl (fun _ => 0))) X.1 X.2.1 (X.2.2.2.2.1 _ hm) rfl X.2.2.2.2.2.1.1 hP hD hS X.2.2.2.2.2.2.1 (fun cA => rfl) hn hN hby h1 h2 hd (fun q cA H1 hK1 hP hD hS => ?_)
  have e1 := va_nm_int (X.2.2.2.2.2.1.1.2 1 (g.2.2.1, .int) rfl).2
  have e2 := va_nm_int (hK1.2 4 (cA, .int) rfl).2
  have e3 : cA = g.2.2.1 := Option.some.inj (e2.symm.trans e1)
  subst e3
  exact kk q H1 locs ls hP hD hS hl
theorem k_newaB {n : Int32} (N' : Nat) (X : Cx p s m meth c args cc nL own A g) (hd : decode cc pc = .ok (.newarray .byte, 2)) (hm : Cond.arrayClass .byte ∈ wsL_law0) (hn : ¬ n < 0) (hN : n.toNatClampNeg = N') (hby : N' * componentBytes .byte ≤ 536870912) (h1 : n1 + 1 ≤ R.cells) (h2 : n2 + N' ≤ R.slots) (kk : ∀ q : Nat, Wk p l e R s m args below meth c Q A g nL (n1 + 1) (n2 + N') (ws ++ [(q, .inl (g.2.1, N', .inl (fun _ => 0)))]) lv (pc + 2) (.ref q :: st)) : Wk p l e R s m args below meth c Q A g nL n1 n2 ws lv pc (.int n :: st) := by
  intro H locs ls hP hD hS hl
  refine va_newa (D := g.1) (cl := vwCl) (atype := .byte) (ty := .byte) (a0 := (N', .inl (fun _ => 0))) X.1 X.2.1 (X.2.2.2.2.1 _ hm) rfl X.2.2.2.2.2.1.1 hP hD hS X.2.2.2.2.2.2.1 (fun cA => rfl) hn hN hby h1 h2 hd (fun q cA H1 hK1 hP hD hS => ?_)
  have e1 := va_nm_byte (X.2.2.2.2.2.1.1.2 0 (g.2.1, .byte) rfl).2
  have e2 := va_nm_byte (hK1.2 4 (cA, .byte) rfl).2
  have e3 : cA = g.2.1 := Option.some.inj (e2.symm.trans e1)
  subst e3
  exact kk q H1 locs ls hP hD hS hl
theorem k_newaJ {n : Int32} (N' : Nat) (X : Cx p s m meth c args cc nL own A g) (hd : decode cc pc = .ok (.newarray .long, 2)) (hm : Cond.arrayClass .long ∈ wsL_law0) (hn : ¬ n < 0) (hN : n.toNatClampNeg = N') (hby : N' * componentBytes .long ≤ 536870912) (h1 : n1 + 1 ≤ R.cells) (h2 : n2 + N' ≤ R.slots) (kk : ∀ q : Nat, Wk p l e R s m args below meth c Q A g nL (n1 + 1) (n2 + N') (ws ++ [(q, .inl (g.2.2.2.1, N', .inr (.inl (fun _ => 0))))]) lv (pc + 2) (.ref q :: st)) : Wk p l e R s m args below meth c Q A g nL n1 n2 ws lv pc (.int n :: st) := by
  intro H locs ls hP hD hS hl
  refine va_newa (D := g.1) (cl := vwCl) (atype := .long) (ty := .long) (a0 := (N', .inr (.inl (fun _ => 0)))) X.1 X.2.1 (X.2.2.2.2.1 _ hm) rfl X.2.2.2.2.2.1.1 hP hD hS X.2.2.2.2.2.2.1 (fun cA => rfl) hn hN hby h1 h2 hd (fun q cA H1 hK1 hP hD hS => ?_)
  have e1 := va_nm_long (X.2.2.2.2.2.1.1.2 2 (g.2.2.2.1, .long) rfl).2
  have e2 := va_nm_long (hK1.2 4 (cA, .long) rfl).2
  have e3 : cA = g.2.2.2.1 := Option.some.inj (e2.symm.trans e1)
  subst e3
  exact kk q H1 locs ls hP hD hS hl
theorem k_objInit {i a : Nat} (X : Cx p s m meth c args cc nL own A g) (hd : decode cc pc = .ok (.invokespecial i, 3)) (hm : Cond.methodLink own i objectInit ∈ wsL_law0) (hm2 : Cond.instanceMethod objectInit ∈ wsL_law0) (hm3 : Cond.code objectInit ⟨#[0xb1]⟩ 1 none ∈ wsL_law0) (hf : 1 ≤ R.frames) (hlo : (st.map fun v => v.category).sum + 12 ≤ R.locals) (kk : Wk p l e R s m args below meth c Q A g nL n1 n2 ws lv (pc + 3) st) : Wk p l e R s m args below meth c Q A g nL n1 n2 ws lv pc (.ref a :: st) := by
  intro H locs ls hP hD hS hl
  refine W.objInit X.1 X.2.1 X.2.2.2.1 (X.2.2.2.2.1 _ hm) (X.2.2.2.2.1 _ hm2) (X.2.2.2.2.1 _ hm3) rfl (by rw [X.2.2.1]; exact hl.1) rfl hd hf (by show 2 * 0 + _ + 12 ≤ _; omega) ?_
  exact kk H locs ls hP hD hS hl
theorem k_mmax {i : Nat} {x y : Int32} (X : Cx p s m meth c args cc nL own A g) (hd : decode cc pc = .ok (.invokestatic i, 3)) (hm : Cond.methodLink own i Lib.Math.max.name ∈ wsL_law0) (hm2 : Cond.static Lib.Math.max.name ∈ wsL_law0) (hm3 : Cond.initialized "java/lang/Math" ∈ wsL_law0) (hm4 : Cond.code Lib.Math.max.name Lib.Math.max.code 2 (some .int) ∈ wsL_law0) (hf : 1 ≤ R.frames) (hlo : (st.map fun v => v.category).sum + 13 ≤ R.locals) (h1 : n1 ≤ R.cells) (h2 : n2 ≤ R.slots) (kk : Wk p l e R s m args below meth c Q A g nL n1 n2 ws lv (pc + 3) (.int (if x < y then y else x) :: st)) : Wk p l e R s m args below meth c Q A g nL n1 n2 ws lv pc (.int y :: .int x :: st) :=
  fun H locs ls hP hD hS hl => va_mmax X.1 X.2.1 (by rw [X.2.2.1]; exact hl.1.symm) X.2.2.2.1 (X.2.2.2.2.1 _ hm) (X.2.2.2.2.1 _ hm2) (X.2.2.2.2.1 _ hm3) (X.2.2.2.2.1 _ hm4) hf hlo h1 h2 hd (kk H locs ls hP hD hS hl)
theorem k_mmin {i : Nat} {x y : Int32} (X : Cx p s m meth c args cc nL own A g) (hd : decode cc pc = .ok (.invokestatic i, 3)) (hm : Cond.methodLink own i Lib.Math.min.name ∈ wsL_law0) (hm2 : Cond.static Lib.Math.min.name ∈ wsL_law0) (hm3 : Cond.initialized "java/lang/Math" ∈ wsL_law0) (hm4 : Cond.code Lib.Math.min.name Lib.Math.min.code 2 (some .int) ∈ wsL_law0) (hf : 1 ≤ R.frames) (hlo : (st.map fun v => v.category).sum + 13 ≤ R.locals) (h1 : n1 ≤ R.cells) (h2 : n2 ≤ R.slots) (kk : Wk p l e R s m args below meth c Q A g nL n1 n2 ws lv (pc + 3) (.int (if y < x then y else x) :: st)) : Wk p l e R s m args below meth c Q A g nL n1 n2 ws lv pc (.int y :: .int x :: st) :=
  fun H locs ls hP hD hS hl => va_mmin X.1 X.2.1 (by rw [X.2.2.1]; exact hl.1.symm) X.2.2.2.1 (X.2.2.2.2.1 _ hm) (X.2.2.2.2.1 _ hm2) (X.2.2.2.2.1 _ hm3) (X.2.2.2.2.1 _ hm4) hf hlo h1 h2 hd (kk H locs ls hP hD hS hl)
theorem k_iald {a n : Nat} {f : Nat → Int32} {x : Int32} (X : Cx p s m meth c args cc nL own A g) (hd : decode cc pc = .ok (.iaload, 1)) (q : Nat) (he : ws[q]? = some (a, .inl (g.2.2.1, n, .inl f))) (hi : vp_in x n) (kk : Wk p l e R s m args below meth c Q A g nL n1 n2 ws lv (pc + 1) (.int (f x.toNatClampNeg) :: st)) : Wk p l e R s m args below meth c Q A g nL n1 n2 ws lv pc (.int x :: .ref a :: st) :=
  fun H locs ls hP hD hS hl => va_iald (D := g.1) (cl := vwCl) X.1 X.2.1 X.2.2.2.2.2.1.1 hP q 1 he rfl hi hd (kk H locs ls hP hD hS hl)
theorem k_bald {a n : Nat} {f : Nat → Int32} {x : Int32} (X : Cx p s m meth c args cc nL own A g) (hd : decode cc pc = .ok (.baload, 1)) (q : Nat) (he : ws[q]? = some (a, .inl (g.2.1, n, .inl f))) (hi : vp_in x n) (kk : Wk p l e R s m args below meth c Q A g nL n1 n2 ws lv (pc + 1) (.int (f x.toNatClampNeg) :: st)) : Wk p l e R s m args below meth c Q A g nL n1 n2 ws lv pc (.int x :: .ref a :: st) :=
  fun H locs ls hP hD hS hl => va_bald (D := g.1) (cl := vwCl) X.1 X.2.1 X.2.2.2.2.2.1.1 hP q 0 he rfl hi hd (kk H locs ls hP hD hS hl)
theorem k_iast {a n : Nat} {f : Nat → Int32} {x v : Int32} (ws' : va_W) (X : Cx p s m meth c args cc nL own A g) (hd : decode cc pc = .ok (.iastore, 1)) (q : Nat) (he : ws[q]? = some (a, .inl (g.2.2.1, n, .inl f))) (hi : vp_in x n) (hw : ws.set q (a, .inl (g.2.2.1, n, .inl (upd f x.toNatClampNeg v))) = ws') (kk : Wk p l e R s m args below meth c Q A g nL n1 n2 ws' lv (pc + 1) st) : Wk p l e R s m args below meth c Q A g nL n1 n2 ws lv pc (.int v :: .int x :: .ref a :: st) := by
  intro H locs ls hP hD hS hl
  subst hw
  exact va_iast (D := g.1) (cl := vwCl) X.1 X.2.1 X.2.2.2.2.2.1.1 hP hD hS q 1 he rfl hi hd (fun H1 locs1 hP hD hS => kk H1 locs1 ls hP hD hS hl)
theorem k_bast {a n : Nat} {f : Nat → Int32} {x v : Int32} (ws' : va_W) (X : Cx p s m meth c args cc nL own A g) (hd : decode cc pc = .ok (.bastore, 1)) (q : Nat) (he : ws[q]? = some (a, .inl (g.2.1, n, .inl f))) (hi : vp_in x n) (hw : ws.set q (a, .inl (g.2.1, n, .inl (upd f x.toNatClampNeg (vp_nar .byte v)))) = ws') (kk : Wk p l e R s m args below meth c Q A g nL n1 n2 ws' lv (pc + 1) st) : Wk p l e R s m args below meth c Q A g nL n1 n2 ws lv pc (.int v :: .int x :: .ref a :: st) := by
  intro H locs ls hP hD hS hl
  subst hw
  exact va_bast (D := g.1) (cl := vwCl) X.1 X.2.1 X.2.2.2.2.2.1.1 hP hD hS q 0 he rfl hi hd (fun H1 locs1 hP hD hS => kk H1 locs1 ls hP hD hS hl)
theorem k_alen {a : Nat} {cA : ClassId} {x : vp_A} {ty : FieldType} (v : Int32) (t0 : Nat) (X : Cx p s m meth c args cc nL own A g) (hd : decode cc pc = .ok (.arraylength, 1)) (q : Nat) (he : ws[q]? = some (a, .inl (cA, x))) (ht : (tyL g)[t0]? = some (cA, ty)) (hv : Int32.ofNat x.1 = v) (kk : Wk p l e R s m args below meth c Q A g nL n1 n2 ws lv (pc + 1) (.int v :: st)) : Wk p l e R s m args below meth c Q A g nL n1 n2 ws lv pc (.ref a :: st) :=
  fun H locs ls hP hD hS hl => va_alen (D := g.1) (cl := vwCl) X.1 X.2.1 X.2.2.2.2.2.1.1 hP q t0 he ht hv hd (kk H locs ls hP hD hS hl)
/-- what a call takes along, and what is left -/
theorem k_pre {ws wc : va_W} {H : Heap} {av : List Value} {s : State} {g : Gx} {A : Nat → Prop} (hK : kK g s) (hP : va_P g.1 vwCl wc H) (hD : va_D A wc) : ∀ U : State, U.heap = H → s.WarmedH U.vm → va_Pc av (kPre g wc H.size) av.toArray U :=
  fun U hU hW => ⟨rfl, by rw [hU], by rw [hU]; exact hP, kK.warm hW hK, hD.weaken (fun _ _ _ _ => trivial)⟩
theorem k_blind {av : List Value} {g : Gx} {wc : va_W} {sz : Nat} : FrameBlind (va_Pc av (kPre g wc sz)) := fun a U gf mk q => by
  obtain ⟨q0, q1, qP, qK, qD⟩ := q
  exact ⟨q0, q1, qP, kK.calling qK, qD⟩
def yOk (y : MethodName) (n : Nat) : Prop := y.cls ≠ "java/lang/invoke/MethodHandle" ∧ y.cls ≠ "java/lang/invoke/VarHandle" ∧ (parseMethodDescriptor y.desc).map (fun d => d.parameters.length) = some n
theorem k_callVV {y : MethodName} {b : ByteArray} {nY f lo mc ms i n : Nat} {As : List Value} {P : va_W → Prop} {C : String} {qC : vw_C} {a : Nat} (X : Cx p s m meth c args cc nL own A g) (wc wr : va_W) (isC isR : List Nat) (hM : cV l g y b nY f lo mc ms (.ref a :: As) wc P) (hd : decode cc pc = .ok (.invokevirtual i, 3)) (hm1 : Cond.methodLink own i y ∈ wsL_law0) (hm2 : Cond.instanceMethod y ∈ wsL_law0) (hm3 : Cond.selects C y y ∈ wsL_law0) (hm4 : Cond.initialized C ∈ wsL_law0) (hm5 : Cond.code y b nY none ∈ wsL_law0) (hC : y.cls = C) (ci : Nat) (hc : vwCl[ci]? = some qC) (hqC : qC.1 = C) (q0 : Nat) (fs : List Value) (hr0 : wc[q0]? = some (a, .inr (ci, fs))) (hy : yOk y n) (hnA : As.length = n) (hf : f + 1 ≤ R.frames) (hlo : 8 + (nY + 11) + lo ≤ R.locals) (hst : (st.map fun v => v.category).sum ≤ 8) (h1 : n1 + mc ≤ R.cells) (h2 : n2 + ms ≤ R.slots)
    (hC1 : isC.filterMap (fun i => ws[i]?) = wc) (hC2 : isC.map (fun i => ws[i]?) = wc.map some) (hC3 : va_nd isC = true) (hR2 : isR.map (fun i => ws[i]?) = wr.map some) (hR3 : va_nd isR = true) (hdis : ∀ i ∈ isR, i ∉ isC)
    (kk : ∀ (w : va_W), P w → Wk p l e R s m args below meth c Q A g nL (n1 + mc) (n2 + ms) (wr ++ w) lv (pc + 3) st) : Wk p l e R s m args below meth c Q A g nL n1 n2 ws lv pc (As.reverse ++ .ref a :: st) := by
  intro H locs ls hP hD hS hl
  have hPc := hP.sub (ws' := wc) isC hC1
  have hDc := hD.sub (ws' := wc) isC hC3 hC2
  have hFc := va_free (wc := wc) hD hS X.2.2.2.2.2.2.1 isC hC2
  refine va_callv (va_runV (As := As) (rest := st) ⟨X.1, X.2.1, X.2.2.1, X.2.2.2.1, X.2.2.2.2.1⟩ (hM H.size) (cwV n X.2.2.2.2.1 (gV hm1 hm2 hm3 hm4 hm5) rfl rfl rfl ⟨hC, hy⟩ ⟨hf, hlo⟩) ⟨k_blind, by rw [← hqC]; exact va_recv X.2.2.2.2.2.1.1 hPc hc hr0, k_pre (ws := ws) X.2.2.2.2.2.1 hPc hDc⟩ rfl hnA hl.1 rfl (lv_room hst) hd ⟨h1, h2⟩) hS (fun q _ h => hFc q h) hFc (fun w t H1 locs1 ht hvm hw hB hz1 hk1 hS1 => ?_)
  obtain ⟨hP1, hD1⟩ := hB
  rw [ht] at hP1
  obtain ⟨hP2, hD2⟩ := va_join (wr := wr) (w1 := w) hP hD isC isR hC2 hR2 hR3 hdis hk1 hFc hP1 hD1
  exact kk w hw H1 locs1 ls hP2 hD2 hS1 hl
theorem k_callSV {y : MethodName} {b : ByteArray} {nY f lo mc ms i n : Nat} {As : List Value} {P : va_W → Prop} (X : Cx p s m meth c args cc nL own A g) (wc wr : va_W) (isC isR : List Nat) (hM : cV l g y b nY f lo mc ms As wc P) (hd : decode cc pc = .ok (.invokestatic i, 3)) (hm1 : Cond.methodLink own i y ∈ wsL_law0) (hm2 : Cond.static y ∈ wsL_law0) (hm4 : Cond.initialized y.cls ∈ wsL_law0) (hm5 : Cond.code y b nY none ∈ wsL_law0) (hy : yOk y n) (hnA : As.length = n) (hf : f + 1 ≤ R.frames) (hlo : 8 + (nY + 11) + lo ≤ R.locals) (hst : (st.map fun v => v.category).sum ≤ 8) (h1 : n1 + mc ≤ R.cells) (h2 : n2 + ms ≤ R.slots)
    (hC1 : isC.filterMap (fun i => ws[i]?) = wc) (hC2 : isC.map (fun i => ws[i]?) = wc.map some) (hC3 : va_nd isC = true) (hR2 : isR.map (fun i => ws[i]?) = wr.map some) (hR3 : va_nd isR = true) (hdis : ∀ i ∈ isR, i ∉ isC)
    (kk : ∀ (w : va_W), P w → Wk p l e R s m args below meth c Q A g nL (n1 + mc) (n2 + ms) (wr ++ w) lv (pc + 3) st) : Wk p l e R s m args below meth c Q A g nL n1 n2 ws lv pc (As.reverse ++ st) := by
  intro H locs ls hP hD hS hl
  have hPc := hP.sub (ws' := wc) isC hC1
  have hDc := hD.sub (ws' := wc) isC hC3 hC2
  have hFc := va_free (wc := wc) hD hS X.2.2.2.2.2.2.1 isC hC2
  refine va_callv (va_runS (As := As) (rest := st) ⟨X.1, X.2.1, X.2.2.1, X.2.2.2.1, X.2.2.2.2.1⟩ (hM H.size) ⟨callB_of n X.2.2.2.2.1 (gC hm5) rfl rfl rfl (X.2.2.2.2.1 _ hm4) (X.2.2.2.2.1 _ hm1) hy ⟨hf, hlo⟩, X.2.2.2.2.1 _ hm2⟩ ⟨k_blind, k_pre (ws := ws) X.2.2.2.2.2.1 hPc hDc⟩ rfl hnA hl.1 rfl (lv_room hst) hd ⟨h1, h2⟩) hS (fun q _ h => hFc q h) hFc (fun w t H1 locs1 ht hvm hw hB hz1 hk1 hS1 => ?_)
  obtain ⟨hP1, hD1⟩ := hB
  rw [ht] at hP1
  obtain ⟨hP2, hD2⟩ := va_join (wr := wr) (w1 := w) hP hD isC isR hC2 hR2 hR3 hdis hk1 hFc hP1 hD1
  exact kk w hw H1 locs1 ls hP2 hD2 hS1 hl
theorem k_callVI {y : MethodName} {b : ByteArray} {nY f lo mc ms i n : Nat} {ret : Option FieldType} {As : List Value} {P : Int32 → va_W → Prop} {C : String} {qC : vw_C} {a : Nat} (X : Cx p s m meth c args cc nL own A g) (wc wr : va_W) (isC isR : List Nat) (hM : cI l g y b nY ret f lo mc ms (.ref a :: As) wc P) (hd : decode cc pc = .ok (.invokevirtual i, 3)) (hm1 : Cond.methodLink own i y ∈ wsL_law0) (hm2 : Cond.instanceMethod y ∈ wsL_law0) (hm3 : Cond.selects C y y ∈ wsL_law0) (hm4 : Cond.initialized C ∈ wsL_law0) (hm5 : Cond.code y b nY ret ∈ wsL_law0) (hC : y.cls = C) (ci : Nat) (hc : vwCl[ci]? = some qC) (hqC : qC.1 = C) (q0 : Nat) (fs : List Value) (hr0 : wc[q0]? = some (a, .inr (ci, fs))) (hy : yOk y n) (hnA : As.length = n) (hf : f + 1 ≤ R.frames) (hlo : 8 + (nY + 11) + lo ≤ R.locals) (hst : (st.map fun v => v.category).sum ≤ 8) (h1 : n1 + mc ≤ R.cells) (h2 : n2 + ms ≤ R.slots)
    (hC1 : isC.filterMap (fun i => ws[i]?) = wc) (hC2 : isC.map (fun i => ws[i]?) = wc.map some) (hC3 : va_nd isC = true) (hR2 : isR.map (fun i => ws[i]?) = wr.map some) (hR3 : va_nd isR = true) (hdis : ∀ i ∈ isR, i ∉ isC)
    (kk : ∀ (r : Int32) (w : va_W), P r w → Wk p l e R s m args below meth c Q A g nL (n1 + mc) (n2 + ms) (wr ++ w) lv (pc + 3) (.int r :: st)) : Wk p l e R s m args below meth c Q A g nL n1 n2 ws lv pc (As.reverse ++ .ref a :: st) := by
  intro H locs ls hP hD hS hl
  have hPc := hP.sub (ws' := wc) isC hC1
  have hDc := hD.sub (ws' := wc) isC hC3 hC2
  have hFc := va_free (wc := wc) hD hS X.2.2.2.2.2.2.1 isC hC2
  refine va_calli (va_runV (As := As) (rest := st) ⟨X.1, X.2.1, X.2.2.1, X.2.2.2.1, X.2.2.2.2.1⟩ (hM H.size) (cwV n X.2.2.2.2.1 (gV hm1 hm2 hm3 hm4 hm5) rfl rfl rfl ⟨hC, hy⟩ ⟨hf, hlo⟩) ⟨k_blind, by rw [← hqC]; exact va_recv X.2.2.2.2.2.1.1 hPc hc hr0, k_pre (ws := ws) X.2.2.2.2.2.1 hPc hDc⟩ rfl hnA hl.1 rfl (lv_room hst) hd ⟨h1, h2⟩) hS (fun q _ h => hFc q h) hFc (fun r w t H1 locs1 ht hvm hw hB hz1 hk1 hS1 => ?_)
  obtain ⟨hP1, hD1⟩ := hB
  rw [ht] at hP1
  obtain ⟨hP2, hD2⟩ := va_join (wr := wr) (w1 := w) hP hD isC isR hC2 hR2 hR3 hdis hk1 hFc hP1 hD1
  exact kk r w hw H1 locs1 ls hP2 hD2 hS1 hl
theorem k_callSI {y : MethodName} {b : ByteArray} {nY f lo mc ms i n : Nat} {ret : Option FieldType} {As : List Value} {P : Int32 → va_W → Prop} (X : Cx p s m meth c args cc nL own A g) (wc wr : va_W) (isC isR : List Nat) (hM : cI l g y b nY ret f lo mc ms As wc P) (hd : decode cc pc = .ok (.invokestatic i, 3)) (hm1 : Cond.methodLink own i y ∈ wsL_law0) (hm2 : Cond.static y ∈ wsL_law0) (hm4 : Cond.initialized y.cls ∈ wsL_law0) (hm5 : Cond.code y b nY ret ∈ wsL_law0) (hy : yOk y n) (hnA : As.length = n) (hf : f + 1 ≤ R.frames) (hlo : 8 + (nY + 11) + lo ≤ R.locals) (hst : (st.map fun v => v.category).sum ≤ 8) (h1 : n1 + mc ≤ R.cells) (h2 : n2 + ms ≤ R.slots)
    (hC1 : isC.filterMap (fun i => ws[i]?) = wc) (hC2 : isC.map (fun i => ws[i]?) = wc.map some) (hC3 : va_nd isC = true) (hR2 : isR.map (fun i => ws[i]?) = wr.map some) (hR3 : va_nd isR = true) (hdis : ∀ i ∈ isR, i ∉ isC)
    (kk : ∀ (r : Int32) (w : va_W), P r w → Wk p l e R s m args below meth c Q A g nL (n1 + mc) (n2 + ms) (wr ++ w) lv (pc + 3) (.int r :: st)) : Wk p l e R s m args below meth c Q A g nL n1 n2 ws lv pc (As.reverse ++ st) := by
  intro H locs ls hP hD hS hl
  have hPc := hP.sub (ws' := wc) isC hC1
  have hDc := hD.sub (ws' := wc) isC hC3 hC2
  have hFc := va_free (wc := wc) hD hS X.2.2.2.2.2.2.1 isC hC2
  refine va_calli (va_runS (As := As) (rest := st) ⟨X.1, X.2.1, X.2.2.1, X.2.2.2.1, X.2.2.2.2.1⟩ (hM H.size) ⟨callB_of n X.2.2.2.2.1 (gC hm5) rfl rfl rfl (X.2.2.2.2.1 _ hm4) (X.2.2.2.2.1 _ hm1) hy ⟨hf, hlo⟩, X.2.2.2.2.1 _ hm2⟩ ⟨k_blind, k_pre (ws := ws) X.2.2.2.2.2.1 hPc hDc⟩ rfl hnA hl.1 rfl (lv_room hst) hd ⟨h1, h2⟩) hS (fun q _ h => hFc q h) hFc (fun r w t H1 locs1 ht hvm hw hB hz1 hk1 hS1 => ?_)
  obtain ⟨hP1, hD1⟩ := hB
  rw [ht] at hP1
  obtain ⟨hP2, hD2⟩ := va_join (wr := wr) (w1 := w) hP hD isC isR hC2 hR2 hR3 hdis hk1 hFc hP1 hD1
  exact kk r w hw H1 locs1 ls hP2 hD2 hS1 hl
theorem k_callVL {y : MethodName} {b : ByteArray} {nY f lo mc ms i n : Nat} {ret : Option FieldType} {As : List Value} {P : Int64 → va_W → Prop} {C : String} {qC : vw_C} {a : Nat} (X : Cx p s m meth c args cc nL own A g) (wc wr : va_W) (isC isR : List Nat) (hM : cL l g y b nY ret f lo mc ms (.ref a :: As) wc P) (hd : decode cc pc = .ok (.invokevirtual i, 3)) (hm1 : Cond.methodLink own i y ∈ wsL_law0) (hm2 : Cond.instanceMethod y ∈ wsL_law0) (hm3 : Cond.selects C y y ∈ wsL_law0) (hm4 : Cond.initialized C ∈ wsL_law0) (hm5 : Cond.code y b nY ret ∈ wsL_law0) (hC : y.cls = C) (ci : Nat) (hc : vwCl[ci]? = some qC) (hqC : qC.1 = C) (q0 : Nat) (fs : List Value) (hr0 : wc[q0]? = some (a, .inr (ci, fs))) (hy : yOk y n) (hnA : As.length = n) (hf : f + 1 ≤ R.frames) (hlo : 8 + (nY + 11) + lo ≤ R.locals) (hst : (st.map fun v => v.category).sum ≤ 8) (h1 : n1 + mc ≤ R.cells) (h2 : n2 + ms ≤ R.slots)
    (hC1 : isC.filterMap (fun i => ws[i]?) = wc) (hC2 : isC.map (fun i => ws[i]?) = wc.map some) (hC3 : va_nd isC = true) (hR2 : isR.map (fun i => ws[i]?) = wr.map some) (hR3 : va_nd isR = true) (hdis : ∀ i ∈ isR, i ∉ isC)
    (kk : ∀ (r : Int64) (w : va_W), P r w → Wk p l e R s m args below meth c Q A g nL (n1 + mc) (n2 + ms) (wr ++ w) lv (pc + 3) (.long r :: st)) : Wk p l e R s m args below meth c Q A g nL n1 n2 ws lv pc (As.reverse ++ .ref a :: st) := by
  intro H locs ls hP hD hS hl
  have hPc := hP.sub (ws' := wc) isC hC1
  have hDc := hD.sub (ws' := wc) isC hC3 hC2
  have hFc := va_free (wc := wc) hD hS X.2.2.2.2.2.2.1 isC hC2
  refine va_calll (va_runV (As := As) (rest := st) ⟨X.1, X.2.1, X.2.2.1, X.2.2.2.1, X.2.2.2.2.1⟩ (hM H.size) (cwV n X.2.2.2.2.1 (gV hm1 hm2 hm3 hm4 hm5) rfl rfl rfl ⟨hC, hy⟩ ⟨hf, hlo⟩) ⟨k_blind, by rw [← hqC]; exact va_recv X.2.2.2.2.2.1.1 hPc hc hr0, k_pre (ws := ws) X.2.2.2.2.2.1 hPc hDc⟩ rfl hnA hl.1 rfl (lv_room hst) hd ⟨h1, h2⟩) hS (fun q _ h => hFc q h) hFc (fun r w t H1 locs1 ht hvm hw hB hz1 hk1 hS1 => ?_)
  obtain ⟨hP1, hD1⟩ := hB
  rw [ht] at hP1
  obtain ⟨hP2, hD2⟩ := va_join (wr := wr) (w1 := w) hP hD isC isR hC2 hR2 hR3 hdis hk1 hFc hP1 hD1
  exact kk r w hw H1 locs1 ls hP2 hD2 hS1 hl
theorem k_callSL {y : MethodName} {b : ByteArray} {nY f lo mc ms i n : Nat} {ret : Option FieldType} {As : List Value} {P : Int64 → va_W → Prop} (X : Cx p s m meth c args cc nL own A g) (wc wr : va_W) (isC isR : List Nat) (hM : cL l g y b nY ret f lo mc ms As wc P) (hd : decode cc pc = .ok (.invokestatic i, 3)) (hm1 : Cond.methodLink own i y ∈ wsL_law0) (hm2 : Cond.static y ∈ wsL_law0) (hm4 : Cond.initialized y.cls ∈ wsL_law0) (hm5 : Cond.code y b nY ret ∈ wsL_law0) (hy : yOk y n) (hnA : As.length = n) (hf : f + 1 ≤ R.frames) (hlo : 8 + (nY + 11) + lo ≤ R.locals) (hst : (st.map fun v => v.category).sum ≤ 8) (h1 : n1 + mc ≤ R.cells) (h2 : n2 + ms ≤ R.slots)
    (hC1 : isC.filterMap (fun i => ws[i]?) = wc) (hC2 : isC.map (fun i => ws[i]?) = wc.map some) (hC3 : va_nd isC = true) (hR2 : isR.map (fun i => ws[i]?) = wr.map some) (hR3 : va_nd isR = true) (hdis : ∀ i ∈ isR, i ∉ isC)
    (kk : ∀ (r : Int64) (w : va_W), P r w → Wk p l e R s m args below meth c Q A g nL (n1 + mc) (n2 + ms) (wr ++ w) lv (pc + 3) (.long r :: st)) : Wk p l e R s m args below meth c Q A g nL n1 n2 ws lv pc (As.reverse ++ st) := by
  intro H locs ls hP hD hS hl
  have hPc := hP.sub (ws' := wc) isC hC1
  have hDc := hD.sub (ws' := wc) isC hC3 hC2
  have hFc := va_free (wc := wc) hD hS X.2.2.2.2.2.2.1 isC hC2
  refine va_calll (va_runS (As := As) (rest := st) ⟨X.1, X.2.1, X.2.2.1, X.2.2.2.1, X.2.2.2.2.1⟩ (hM H.size) ⟨callB_of n X.2.2.2.2.1 (gC hm5) rfl rfl rfl (X.2.2.2.2.1 _ hm4) (X.2.2.2.2.1 _ hm1) hy ⟨hf, hlo⟩, X.2.2.2.2.1 _ hm2⟩ ⟨k_blind, k_pre (ws := ws) X.2.2.2.2.2.1 hPc hDc⟩ rfl hnA hl.1 rfl (lv_room hst) hd ⟨h1, h2⟩) hS (fun q _ h => hFc q h) hFc (fun r w t H1 locs1 ht hvm hw hB hz1 hk1 hS1 => ?_)
  obtain ⟨hP1, hD1⟩ := hB
  rw [ht] at hP1
  obtain ⟨hP2, hD2⟩ := va_join (wr := wr) (w1 := w) hP hD isC isR hC2 hR2 hR3 hdis hk1 hFc hP1 hD1
  exact kk r w hw H1 locs1 ls hP2 hD2 hS1 hl
theorem k_callII {y : MethodName} {b : ByteArray} {nY f lo mc ms i n a : Nat} {As : List Value} {P : va_W → Prop} (X : Cx p s m meth c args cc nL own A g) (wc wr : va_W) (isC isR : List Nat) (hM : cV l g y b nY f lo mc ms (.ref a :: As) wc P) (hd : decode cc pc = .ok (.invokespecial i, 3)) (hm1 : Cond.methodLink own i y ∈ wsL_law0) (hm2 : Cond.instanceMethod y ∈ wsL_law0) (hm4 : Cond.initialized y.cls ∈ wsL_law0) (hm5 : Cond.code y b nY none ∈ wsL_law0) (hyi : y.name = "<init>") (hy : yOk y n) (hnA : As.length = n) (hf : f + 1 ≤ R.frames) (hlo : 8 + (nY + 11) + lo ≤ R.locals) (hst : (st.map fun v => v.category).sum ≤ 8) (h1 : n1 + mc ≤ R.cells) (h2 : n2 + ms ≤ R.slots)
    (hC1 : isC.filterMap (fun i => ws[i]?) = wc) (hC2 : isC.map (fun i => ws[i]?) = wc.map some) (hC3 : va_nd isC = true) (hR2 : isR.map (fun i => ws[i]?) = wr.map some) (hR3 : va_nd isR = true) (hdis : ∀ i ∈ isR, i ∉ isC)
    (kk : ∀ (w : va_W), P w → Wk p l e R s m args below meth c Q A g nL (n1 + mc) (n2 + ms) (wr ++ w) lv (pc + 3) st) : Wk p l e R s m args below meth c Q A g nL n1 n2 ws lv pc (As.reverse ++ .ref a :: st) := by
  intro H locs ls hP hD hS hl
  have hPc := hP.sub (ws' := wc) isC hC1
  have hDc := hD.sub (ws' := wc) isC hC3 hC2
  have hFc := va_free (wc := wc) hD hS X.2.2.2.2.2.2.1 isC hC2
  refine va_callv (va_runI (As := As) (rest := st) ⟨X.1, X.2.1, X.2.2.1, X.2.2.2.1, X.2.2.2.2.1⟩ (hM H.size) (cwI n X.2.2.2.2.1 (gC hm5) rfl rfl rfl (X.2.2.2.2.1 _ hm4) (X.2.2.2.2.1 _ hm1) (X.2.2.2.2.1 _ hm2) hyi hy ⟨hf, hlo⟩) ⟨k_blind, k_pre (ws := ws) X.2.2.2.2.2.1 hPc hDc⟩ rfl hnA hl.1 rfl (lv_room hst) hd ⟨h1, h2⟩) hS (fun q _ h => hFc q h) hFc (fun w t H1 locs1 ht hvm hw hB hz1 hk1 hS1 => ?_)
  obtain ⟨hP1, hD1⟩ := hB
  rw [ht] at hP1
  obtain ⟨hP2, hD2⟩ := va_join (wr := wr) (w1 := w) hP hD isC isR hC2 hR2 hR3 hdis hk1 hFc hP1 hD1
  exact kk w hw H1 locs1 ls hP2 hD2 hS1 hl
theorem k_callIN {y : MethodName} {b : ByteArray} {nY f lo mc ms i n a : Nat} {host : String} {As : List Value} {P : va_W → Prop} (X : Cx p s m meth c args cc nL own A g) (wc wr : va_W) (isC isR : List Nat) (hM : cV l g y b nY f lo mc ms (.ref a :: As) wc P) (hd : decode cc pc = .ok (.invokespecial i, 3)) (hm1 : (own, i, y, host) ∈ nestL) (hm2 : Cond.instanceMethod y ∈ wsL_law0) (hm4 : Cond.initialized y.cls ∈ wsL_law0) (hm5 : Cond.code y b nY none ∈ wsL_law0) (hyi : y.name = "<init>") (hy : yOk y n) (hnA : As.length = n) (hf : f + 1 ≤ R.frames) (hlo : 8 + (nY + 11) + lo ≤ R.locals) (hst : (st.map fun v => v.category).sum ≤ 8) (h1 : n1 + mc ≤ R.cells) (h2 : n2 + ms ≤ R.slots)
    (hC1 : isC.filterMap (fun i => ws[i]?) = wc) (hC2 : isC.map (fun i => ws[i]?) = wc.map some) (hC3 : va_nd isC = true) (hR2 : isR.map (fun i => ws[i]?) = wr.map some) (hR3 : va_nd isR = true) (hdis : ∀ i ∈ isR, i ∉ isC)
    (kk : ∀ (w : va_W), P w → Wk p l e R s m args below meth c Q A g nL (n1 + mc) (n2 + ms) (wr ++ w) lv (pc + 3) st) : Wk p l e R s m args below meth c Q A g nL n1 n2 ws lv pc (As.reverse ++ .ref a :: st) := by
  intro H locs ls hP hD hS hl
  have hPc := hP.sub (ws' := wc) isC hC1
  have hDc := hD.sub (ws' := wc) isC hC3 hC2
  have hFc := va_free (wc := wc) hD hS X.2.2.2.2.2.2.1 isC hC2
  refine va_callv (va_runIN (As := As) (rest := st) ⟨X.1, X.2.1, X.2.2.1, X.2.2.2.1, X.2.2.2.2.1⟩ (hM H.size) ⟨va_cnB n X.2.2.2.2.1 (gC hm5) rfl rfl rfl (X.2.2.2.2.2.1.2.2.2.1 _ hm1) (X.2.2.2.2.1 _ hm4) hy ⟨hf, hlo⟩, hyi, X.2.2.2.2.1 _ hm2⟩ ⟨k_blind, k_pre (ws := ws) X.2.2.2.2.2.1 hPc hDc⟩ rfl hnA hl.1 rfl (lv_room hst) hd ⟨h1, h2⟩) hS (fun q _ h => hFc q h) hFc (fun w t H1 locs1 ht hvm hw hB hz1 hk1 hS1 => ?_)
  obtain ⟨hP1, hD1⟩ := hB
  rw [ht] at hP1
  obtain ⟨hP2, hD2⟩ := va_join (wr := wr) (w1 := w) hP hD isC isR hC2 hR2 hR3 hdis hk1 hFc hP1 hD1
  exact kk w hw H1 locs1 ls hP2 hD2 hS1 hl
theorem k_wide (k1 k2 : Nat) (h1 : n1 ≤ k1) (h2 : n2 ≤ k2) (kk : Wk p l e R s m args below meth c Q A g nL k1 k2 ws lv pc st) : Wk p l e R s m args below meth c Q A g nL n1 n2 ws lv pc st := fun H locs ls hP hD hS hl => W.widen h1 h2 (kk H locs ls hP hD hS hl)
theorem k_sub (ws' : va_W) (is : List Nat) (hs1 : is.filterMap (fun i => ws[i]?) = ws') (hn : va_nd is = true) (hs2 : is.map (fun i => ws[i]?) = ws'.map some) (kk : Wk p l e R s m args below meth c Q A g nL n1 n2 ws' lv pc st) : Wk p l e R s m args below meth c Q A g nL n1 n2 ws lv pc st := fun H locs ls hP hD hS hl => kk H locs ls (hP.sub is hs1) (hD.sub is hn hs2) hS hl
theorem k_lv (lv' : List (Nat × Value)) (is : List Nat) (h : lv_pick lv is = lv') (kk : Wk p l e R s m args below meth c Q A g nL n1 n2 ws lv' pc st) : Wk p l e R s m args below meth c Q A g nL n1 n2 ws lv pc st := fun H locs ls hP hD hS hl => kk H locs ls hP hD hS (lv_sub hl is h)
theorem k_ldcwS {i : Nat} {tx : String} (X : Cx p s m meth c args cc nL own A g) (hd : decode cc pc = .ok (.ldc_w i, 3)) (hm : (own, i, tx) ∈ strL) (kk : ∀ a : Nat, Wk p l e R s m args below meth c Q A g nL n1 n2 ws lv (pc + 3) (.ref a :: st)) : Wk p l e R s m args below meth c Q A g nL n1 n2 ws lv pc st := by
  intro H locs ls hP hD hS hl
  obtain ⟨a, ha⟩ := X.2.2.2.2.2.1.2.2.1 _ hm
  intro T hT Y
  obtain ⟨t, a1, b1⟩ := kk a H locs ls hP hD hS hl T hT Y
  refine ⟨t, ?_, b1⟩
  obtain ⟨k, cf, i', a', hk, hcf, hcp, -, hr, hev'⟩ := Cond.stringRef_spec X.2.2.2.1 ha.1
  cases ha.2.symm.trans hev'
  obtain ⟨k', hk', he⟩ := Y.warmed.alike.2.2 _ _ hk
  have hr' : k'.resolved[i]? = some (some (.string a)) := by
    rcases Y.warmed.entry hk hk' i with h | ⟨h, -⟩
    · rw [h]; exact hr
    · rw [hr] at h; cases h
  have hdg : decode c.code (F0 m pc ls st).pc = .ok (.ldc_w i, 3) := by rw [X.2.1]; exact hd
  have hex := X.1
  jvm_step Y.here [hex, hdg, ldc_w.wp_string (e := e) (s := T) (f := F0 m pc ls st) Y.here.top hk' (by rw [he]; exact hcf) hcp hr']
  exact a1
theorem k_ldcw {i : Nat} {v : Int32} (X : Cx p s m meth c args cc nL own A g) (hd : decode cc pc = .ok (.ldc_w i, 3)) (hm : Cond.constant own i v ∈ wsL_law0) (kk : Wk p l e R s m args below meth c Q A g nL n1 n2 ws lv (pc + 3) (.int v :: st)) : Wk p l e R s m args below meth c Q A g nL n1 n2 ws lv pc st := fun H locs ls hP hD hS hl => lv_ldcw X.1 X.2.1 X.2.2.2.1 (X.2.2.2.2.1 _ hm) hd (kk H locs ls hP hD hS hl)
theorem k_tableIn {dflt lo hi : Int} {offs : Array Int} {len : Nat} {x : Int32} {off : Int} (tgt : Nat) (X : Cx p s m meth c args cc nL own A g) (hd : decode cc pc = .ok (.tableswitch dflt lo hi offs, len)) (h1 : ¬ x.toInt < lo) (h2 : ¬ hi < x.toInt) (ho : offs[(x.toInt - lo).toNat]? = some off) (ht : (pc : Int) + off = (tgt : Int)) (kk : Wk p l e R s m args below meth c Q A g nL n1 n2 ws lv tgt st) : Wk p l e R s m args below meth c Q A g nL n1 n2 ws lv pc (.int x :: st) := fun H locs ls hP hD hS hl => lv_tableIn X.1 X.2.1 hd h1 h2 ho ht (kk H locs ls hP hD hS hl)
theorem k_tableOut {dflt lo hi : Int} {offs : Array Int} {len : Nat} {x : Int32} (tgt : Nat) (X : Cx p s m meth c args cc nL own A g) (hd : decode cc pc = .ok (.tableswitch dflt lo hi offs, len)) (h : x.toInt < lo ∨ hi < x.toInt) (ht : (pc : Int) + dflt = (tgt : Int)) (kk : Wk p l e R s m args below meth c Q A g nL n1 n2 ws lv tgt st) : Wk p l e R s m args below meth c Q A g nL n1 n2 ws lv pc (.int x :: st) := fun H locs ls hP hD hS hl => lv_tableOut X.1 X.2.1 hd h ht (kk H locs ls hP hD hS hl)
theorem k_irem {x y : Int32} (X : Cx p s m meth c args cc nL own A g) (hd : decode cc pc = .ok (.irem, 1)) (h0 : ¬ y = 0) (kk : Wk p l e R s m args below meth c Q A g nL n1 n2 ws lv (pc + 1) (.int (x - x / y * y) :: st)) : Wk p l e R s m args below meth c Q A g nL n1 n2 ws lv pc (.int y :: .int x :: st) := fun H locs ls hP hD hS hl => lv_irem X.1 X.2.1 hd h0 (kk H locs ls hP hD hS hl)
theorem i32_le0 {x : Int32} (h : ¬ x < 0) (h2 : x ≤ 0) : x = 0 := Int32.le_antisymm h2 (Int32.not_lt.mp h)
theorem i32_nn {x : Int32} (h : ¬ x < 0) (h2 : ¬ (-1) < x) : False := h2 (Int32.lt_of_lt_of_le (by decide) (Int32.not_lt.mp h))
theorem i32_eq0 {x : Int32} (h : ¬ x < 0) (h2 : ¬ 0 < x) : x = 0 := i32_le0 h (Int32.not_lt.mp h2)
theorem upd0 {k : Nat} : upd (fun _ => (0 : Int32)) k 0 = (fun _ => 0) := by funext j; unfold upd; split <;> rfl
theorem i32_toInt_lt {x y : Int32} : x < y ↔ x.toInt < y.toInt := Int32.lt_iff_toInt_lt
theorem i32_5 {x : Int32} (h : ¬ 5 < x) : x < 6 := by
  rw [i32_toInt_lt] at *
  have e5 : (5 : Int32).toInt = 5 := by decide
  have e6 : (6 : Int32).toInt = 6 := by decide
  omega
theorem i32_517 {x : Int32} (h : ¬ 5 < x) : ¬ 17 < x := by
  rw [i32_toInt_lt] at *
  have e5 : (5 : Int32).toInt = 5 := by decide
  have e6 : (17 : Int32).toInt = 17 := by decide
  omega
theorem i32_in6 {x z : Int32} (h : ¬ x < 0) (h2 : x < 6) (e : z = 0 + x) : vp_in z 6 := by
  have e1 : z = x := by rw [e]; exact Int32.zero_add x
  rw [e1, vp_in_iff]
  rw [i32_toInt_lt] at h h2
  have e5 : (0 : Int32).toInt = 0 := by decide
  have e6 : (6 : Int32).toInt = 6 := by decide
  omega
theorem i32_sz {x : Int32} (h : 5 < x) : x = 6 ∨ x = 7 ∨ x = 8 ∨ x = 9 ∨ x = 10 ∨ x = 11 ∨ x = 12 ∨ x = 13 ∨ x = 14 ∨ x = 15 ∨ x = 16 ∨ x = 17 ∨ 17 < x := by
  rw [i32_toInt_lt] at h
  have e5 : (5 : Int32).toInt = 5 := by decide
  have e17 : (17 : Int32).toInt = 17 := by decide
  by_cases h2 : 17 < x
  · simp [h2]
  · rw [i32_toInt_lt] at h2
    have h3 : x.toInt = 6 ∨ x.toInt = 7 ∨ x.toInt = 8 ∨ x.toInt = 9 ∨ x.toInt = 10 ∨ x.toInt = 11 ∨ x.toInt = 12 ∨ x.toInt = 13 ∨ x.toInt = 14 ∨ x.toInt = 15 ∨ x.toInt = 16 ∨ x.toInt = 17 := by omega
    rcases h3 with h | h | h | h | h | h | h | h | h | h | h | h
    · exact Or.inl (Int32.toInt_inj.mp (h.trans (by decide)))
    · exact Or.inr (Or.inl (Int32.toInt_inj.mp (h.trans (by decide))))
    · exact Or.inr (Or.inr (Or.inl (Int32.toInt_inj.mp (h.trans (by decide)))))
    · exact Or.inr (Or.inr (Or.inr (Or.inl (Int32.toInt_inj.mp (h.trans (by decide))))))
    · exact Or.inr (Or.inr (Or.inr (Or.inr (Or.inl (Int32.toInt_inj.mp (h.trans (by decide)))))))
    · exact Or.inr (Or.inr (Or.inr (Or.inr (Or.inr (Or.inl (Int32.toInt_inj.mp (h.trans (by decide))))))))
    · exact Or.inr (Or.inr (Or.inr (Or.inr (Or.inr (Or.inr (Or.inl (Int32.toInt_inj.mp (h.trans (by decide)))))))))
    · exact Or.inr (Or.inr (Or.inr (Or.inr (Or.inr (Or.inr (Or.inr (Or.inl (Int32.toInt_inj.mp (h.trans (by decide))))))))))
    · exact Or.inr (Or.inr (Or.inr (Or.inr (Or.inr (Or.inr (Or.inr (Or.inr (Or.inl (Int32.toInt_inj.mp (h.trans (by decide)))))))))))
    · exact Or.inr (Or.inr (Or.inr (Or.inr (Or.inr (Or.inr (Or.inr (Or.inr (Or.inr (Or.inl (Int32.toInt_inj.mp (h.trans (by decide))))))))))))
    · exact Or.inr (Or.inr (Or.inr (Or.inr (Or.inr (Or.inr (Or.inr (Or.inr (Or.inr (Or.inr (Or.inl (Int32.toInt_inj.mp (h.trans (by decide)))))))))))))
    · exact Or.inr (Or.inr (Or.inr (Or.inr (Or.inr (Or.inr (Or.inr (Or.inr (Or.inr (Or.inr (Or.inr (Or.inl (Int32.toInt_inj.mp (h.trans (by decide))))))))))))))
theorem i32_tOut {x : Int32} (h : x < 0 ∨ 17 < x) : x.toInt < 6 ∨ 17 < x.toInt := by
  have e0 : (0 : Int32).toInt = 0 := by decide
  have e17 : (17 : Int32).toInt = 17 := by decide
  rcases h with h | h
  · rw [i32_toInt_lt] at h; omega
  · rw [i32_toInt_lt] at h; omega
theorem sz_a {x : Int32} (h : x = 17) : ¬ x < 0 ∧ ¬ 17 < x := by
  subst h
  decide
theorem sz_b {x : Int32} (h : ¬ x < 0) (h2 : ¬ 16 < x) : ¬ x < 0 ∧ ¬ 17 < x := by
  refine ⟨h, ?_⟩
  rw [i32_toInt_lt] at *
  have e5 : (16 : Int32).toInt = 16 := by decide
  have e6 : (17 : Int32).toInt = 17 := by decide
  omega
theorem sz_c {x : Int32} (h : x ≠ 17) (h2 : x < 0 ∨ 16 < x) : x < 0 ∨ 17 < x := by
  rcases h2 with h2 | h2
  · exact Or.inl h2
  · refine Or.inr ?_
    rw [i32_toInt_lt] at *
    have e5 : (16 : Int32).toInt = 16 := by decide
    have e6 : (17 : Int32).toInt = 17 := by decide
    have e7 : x.toInt ≠ 17 := fun q => h (Int32.toInt_inj.mp (q.trans e6.symm))
    omega
theorem sz_no {x y : Int32} (h : ¬ x < 0 ∧ ¬ 17 < x) (h2 : y < 0 ∨ 17 < y) (e : x = y) : False := by
  subst e
  rcases h2 with q | q
  · exact h.1 q
  · exact h.2 q
theorem i32_ge {x : Int32} (h : ¬ x < 0) : 0 ≤ x := Int32.not_lt.mp h
theorem k_i2b {x : Int32} (X : Cx p s m meth c args cc nL own A g) (hd : decode cc pc = .ok (.i2b, 1)) (kk : Wk p l e R s m args below meth c Q A g nL n1 n2 ws lv (pc + 1) (.int x.toInt8.toInt32 :: st)) : Wk p l e R s m args below meth c Q A g nL n1 n2 ws lv pc (.int x :: st) := fun H locs ls hP hD hS hl => lv_i2b X.1 X.2.1 hd rfl (kk H locs ls hP hD hS hl)
theorem k_toL {x : Int64} (y : Int64) (h : x = y) (kk : Wk p l e R s m args below meth c Q A g nL n1 n2 ws lv pc (.long y :: st)) : Wk p l e R s m args below meth c Q A g nL n1 n2 ws lv pc (.long x :: st) := by rw [h]; exact kk
theorem k_lcmp {x y : Int64} (X : Cx p s m meth c args cc nL own A g) (hd : decode cc pc = .ok (.lcmp, 1)) (kk : Wk p l e R s m args below meth c Q A g nL n1 n2 ws lv (pc + 1) (.int (lg_cmp x y) :: st)) : Wk p l e R s m args below meth c Q A g nL n1 n2 ws lv pc (.long y :: .long x :: st) := fun H locs ls hP hD hS hl => W.lcmp X.1 X.2.1 hd (kk H locs ls hP hD hS hl)
theorem k_iushr {x y : Int32} (X : Cx p s m meth c args cc nL own A g) (hd : decode cc pc = .ok (.iushr, 1)) (kk : Wk p l e R s m args below meth c Q A g nL n1 n2 ws lv (pc + 1) (.int (x.toUInt32 >>> (y.toUInt32 &&& Int32.toUInt32 31)).toInt32 :: st)) : Wk p l e R s m args below meth c Q A g nL n1 n2 ws lv pc (.int y :: .int x :: st) := fun H locs ls hP hD hS hl => lv_iushr X.1 X.2.1 hd rfl (kk H locs ls hP hD hS hl)
theorem k_ws (ws' : va_W) (h : ws = ws') (kk : Wk p l e R s m args below meth c Q A g nL n1 n2 ws' lv pc st) : Wk p l e R s m args below meth c Q A g nL n1 n2 ws lv pc st := by rw [h]; exact kk
theorem k_lveq (lv' : List (Nat × Value)) (h : lv = lv') (kk : Wk p l e R s m args below meth c Q A g nL n1 n2 ws lv' pc st) : Wk p l e R s m args below meth c Q A g nL n1 n2 ws lv pc st := by rw [h]; exact kk
theorem k_newq {i : Nat} {n : Int32} (N' : Nat) (X : Cx p s m meth c args cc nL own A g) (hd : decode cc pc = .ok (.anewarray i, 3)) (hm : Cond.classLink own i RX7 ∈ wsL_law0) (hn : ¬ n < 0) (hN : n.toNatClampNeg = N') (hby : N' * 4 ≤ 536870912) (h1 : n1 + 1 ≤ R.cells) (h2 : n2 + N' ≤ R.slots) (kk : ∀ q : Nat, Wk p l e R s m args below meth c Q A g nL (n1 + 1) (n2 + N') (ws ++ [(q, .inl (g.2.2.2.2, N', .inr (.inr (.inr (.inr (fun _ => none))))))]) lv (pc + 3) (.ref q :: st)) : Wk p l e R s m args below meth c Q A g nL n1 n2 ws lv pc (.int n :: st) := by
  intro H locs ls hP hD hS hl
  refine va_newq (D := g.1) (cl := vwCl) X.1 X.2.1 X.2.2.2.1 (X.2.2.2.2.1 _ hm) X.2.2.2.2.2.1.2.1 X.2.2.2.2.2.1.1 hP hD hS X.2.2.2.2.2.2.1 hn hN hby h1 h2 hd (fun q cA H1 hK1 hP hD hS => ?_)
  have e1 := va_nmO (X.2.2.2.2.2.1.1.2 3 (g.2.2.2.2, .object "ReelChange$State") rfl).2 rfl
  have e2 := va_nmO (hK1.2 4 (cA, .object RX7) rfl).2 rfl
  have e3 : cA = g.2.2.2.2 := Option.some.inj (e2.symm.trans e1)
  subst e3
  exact kk q H1 locs ls hP hD hS hl
theorem k_astq {a n v : Nat} {f : Nat → Option Nat} {vs : List Value} {x : Int32} (ws' : va_W) (X : Cx p s m meth c args cc nL own A g) (hd : decode cc pc = .ok (.aastore, 1)) (q qk : Nat) (he : ws[q]? = some (a, .inl (g.2.2.2.2, n, .inr (.inr (.inr (.inr f)))))) (hv : ws[qk]? = some (v, .inr (7, vs))) (hi : vp_in x n) (hw : ws.set q (a, .inl (g.2.2.2.2, n, .inr (.inr (.inr (.inr (va_up f x.toNatClampNeg (some v))))))) = ws') (kk : Wk p l e R s m args below meth c Q A g nL n1 n2 ws' lv (pc + 1) st) : Wk p l e R s m args below meth c Q A g nL n1 n2 ws lv pc (.ref v :: .int x :: .ref a :: st) := by
  intro H locs ls hP hD hS hl
  subst hw
  exact va_astq (D := g.1) (cl := vwCl) (r := (RX7, TX7, 6)) X.1 X.2.1 X.2.2.2.2.2.1.1 hP hD hS q 3 qk 7 he rfl hv rfl hi hd (fun H1 locs1 hP hD hS => kk H1 locs1 ls hP hD hS hl)
theorem k_sld {b L : Nat} {xs : Nat → Int32} {x : Int32} (X : Cx p s m meth c args cc nL own A g) (hX : va_X b L xs s s.heap) (hbl : b < s.heap.size) (hbA : ¬ A b) (hd : decode cc pc = .ok (.iaload, 1)) (hi : vp_in x L) (kk : Wk p l e R s m args below meth c Q A g nL n1 n2 ws lv (pc + 1) (.int (xs x.toNatClampNeg) :: st)) : Wk p l e R s m args below meth c Q A g nL n1 n2 ws lv pc (.int x :: .ref b :: st) :=
  fun H locs ls hP hD hS hl => va_sld X.1 X.2.1 hX hbl hbA hS hi hd (kk H locs ls hP hD hS hl)
theorem k_slen {b L : Nat} {xs : Nat → Int32} (X : Cx p s m meth c args cc nL own A g) (hX : va_X b L xs s s.heap) (hbl : b < s.heap.size) (hbA : ¬ A b) (hd : decode cc pc = .ok (.arraylength, 1)) (kk : Wk p l e R s m args below meth c Q A g nL n1 n2 ws lv (pc + 1) (.int (Int32.ofNat L) :: st)) : Wk p l e R s m args below meth c Q A g nL n1 n2 ws lv pc (.ref b :: st) :=
  fun H locs ls hP hD hS hl => va_slen X.1 X.2.1 hX hbl hbA hS hd (kk H locs ls hP hD hS hl)
end KB
end
section
/-! numbers, and what a Table is -/
theorem bm32 {z : Int} (h1 : -2147483648 ≤ z) (h2 : z < 2147483648) : z.bmod (2 ^ 32) = z := by
  unfold Int.bmod
  have e : ((2 ^ 32 : Nat) : Int) = 4294967296 := by decide
  rw [e]
  omega
theorem addI {x y : Int32} (h1 : -2147483648 ≤ x.toInt + y.toInt) (h2 : x.toInt + y.toInt < 2147483648) : (x + y).toInt = x.toInt + y.toInt := by
  rw [Int32.toInt_add]; exact bm32 h1 h2
theorem subI {x y : Int32} (h1 : -2147483648 ≤ x.toInt - y.toInt) (h2 : x.toInt - y.toInt < 2147483648) : (x - y).toInt = x.toInt - y.toInt := by
  rw [Int32.toInt_sub]; exact bm32 h1 h2
theorem mulI {x y : Int32} (h1 : -2147483648 ≤ x.toInt * y.toInt) (h2 : x.toInt * y.toInt < 2147483648) : (x * y).toInt = x.toInt * y.toInt := by
  rw [Int32.toInt_mul]; exact bm32 h1 h2
theorem lt_I {x y : Int32} : x < y ↔ x.toInt < y.toInt := Int32.lt_iff_toInt_lt
theorem le_I {x y : Int32} : x ≤ y ↔ x.toInt ≤ y.toInt := Int32.le_iff_toInt_le
theorem rng (x : Int32) : -2147483648 ≤ x.toInt ∧ x.toInt < 2147483648 := ⟨Int32.le_toInt x, Int32.toInt_lt x⟩
theorem zI : (0 : Int32).toInt = 0 := by decide
theorem oneI : (1 : Int32).toInt = 1 := by decide
theorem mu_lt {k n z : Int32} (h : ¬ n ≤ k) (e : k + Int32.ofInt 1 = z) : (n.toInt - z.toInt).toNat < (n.toInt - k.toInt).toNat := by
  rw [le_I] at h
  have h1 := rng n
  have h2 := rng k
  have e1 : Int32.ofInt 1 = 1 := by decide
  have e2 : z.toInt = k.toInt + 1 := by rw [← e, e1, addI (by rw [oneI]; omega) (by rw [oneI]; omega), oneI]
  omega
/-- a table of R rows and V columns over N cells -/
def TbOk (R V : Int32) (N : Nat) : Prop := 0 ≤ R.toInt ∧ 0 ≤ V.toInt ∧ R.toInt * V.toInt = N ∧ N < 2147483648
def tbOut (R V row col : Int32) : Prop := row < 0 ∨ R ≤ row ∨ col < 0 ∨ ¬ col < V
theorem tb_in {R V row col z z1 : Int32} {N : Nat} (hT : TbOk R V N) (h1 : ¬ row < 0) (h2 : ¬ R ≤ row) (h3 : ¬ col < 0) (h4 : col < V) (e2 : z = z1 + col) (e1 : z1 = row * V) : vp_in z N := by
  obtain ⟨t1, t2, t3, t4⟩ := hT
  rw [lt_I, zI] at h1 h3
  rw [le_I] at h2
  rw [lt_I] at h4
  have m1 : (row.toInt + 1) * V.toInt ≤ R.toInt * V.toInt := Int.mul_le_mul_of_nonneg_right (by omega) t2
  have m2 : 0 ≤ row.toInt * V.toInt := Int.mul_nonneg (by omega) t2
  rw [Int.add_mul, Int.one_mul, t3] at m1
  generalize hm : row.toInt * V.toInt = mm at m1 m2
  have a1 : z1.toInt = mm := by rw [e1, mulI (by rw [hm]; omega) (by rw [hm]; omega), hm]
  have a2 : z.toInt = mm + col.toInt := by rw [e2, addI (by rw [a1]; omega) (by rw [a1]; omega), a1]
  rw [vp_in_iff]
  omega
noncomputable def tbAt (R V : Int32) (f : Nat → Int32) (row col : Int32) : Int32 := if row < 0 ∨ R ≤ row ∨ col < 0 ∨ ¬ col < V then 0 else f (row * V + col).toNatClampNeg
noncomputable def tbPut (R V : Int32) (f : Nat → Int32) (row col v : Int32) : Nat → Int32 := if row < 0 ∨ R ≤ row ∨ col < 0 ∨ ¬ col < V then f else upd f (row * V + col).toNatClampNeg v
section KC
variable {p : Program} {l : Launch} {e : Env} {R : Room} {s : State} {m : MethodId} {args : Array Value} {below : List Frame} {meth : Method} {c : Code} {Q : State → Prop} {A : Nat → Prop} {g : Gx} {cc : ByteArray} {nL n1 n2 pc : Nat} {own : String} {ws : va_W} {lv : List (Nat × Value)} {st : List Value}
theorem k_ifnull {a : Nat} {off : Int} (X : Cx p s m meth c args cc nL own A g) (hd : decode cc pc = .ok (.ifnull off, 3)) (kk : Wk p l e R s m args below meth c Q A g nL n1 n2 ws lv (pc + 3) st) : Wk p l e R s m args below meth c Q A g nL n1 n2 ws lv pc (.ref a :: st) := fun H locs ls hP hD hS hl => lv_ifnull X.1 X.2.1 hd (kk H locs ls hP hD hS hl)
theorem k_ifnonnull {a : Nat} {off : Int} (tgt : Nat) (X : Cx p s m meth c args cc nL own A g) (hd : decode cc pc = .ok (.ifnonnull off, 3)) (ht : (pc : Int) + off = (tgt : Int)) (kk : Wk p l e R s m args below meth c Q A g nL n1 n2 ws lv tgt st) : Wk p l e R s m args below meth c Q A g nL n1 n2 ws lv pc (.ref a :: st) := fun H locs ls hP hD hS hl => lv_ifnonnull X.1 X.2.1 hd ht (kk H locs ls hP hD hS hl)
theorem k_ineg {x : Int32} (X : Cx p s m meth c args cc nL own A g) (hd : decode cc pc = .ok (.ineg, 1)) (kk : Wk p l e R s m args below meth c Q A g nL n1 n2 ws lv (pc + 1) (.int (-x) :: st)) : Wk p l e R s m args below meth c Q A g nL n1 n2 ws lv pc (.int x :: st) := fun H locs ls hP hD hS hl => lv_ineg X.1 X.2.1 hd (kk H locs ls hP hD hS hl)
theorem k_copyi {i a0 a n0 m0 : Nat} {f h : Nat → Int32} {sp dp n : Int32} (ws' : va_W) (X : Cx p s m meth c args cc nL own A g) (hd : decode cc pc = .ok (.invokestatic i, 3)) (hm1 : Cond.methodLink own i arraycopyName ∈ wsL_law0) (hm2 : Cond.native arraycopyName ∈ wsL_law0) (hm3 : Cond.static arraycopyName ∈ wsL_law0) (hm4 : Cond.initialized "java/lang/System" ∈ wsL_law0) (q0 q1 : Nat) (ha0 : ws[q0]? = some (a0, .inl (g.2.2.1, n0, .inl f))) (ha1 : ws[q1]? = some (a, .inl (g.2.2.1, m0, .inl h))) (h1 : ¬ sp < 0) (h2 : ¬ dp < 0) (h3 : ¬ n < 0) (h4 : sp.toNatClampNeg + n.toNatClampNeg ≤ n0) (h5 : dp.toNatClampNeg + n.toNatClampNeg ≤ m0) (hf : 1 ≤ R.frames) (hlo : (st.map fun v => v.category).sum + (nativeFrameWords "java/lang/System" "arraycopy" 5 + 11) ≤ R.locals) (hw : ws.set q1 (a, .inl (g.2.2.1, m0, .inl (va_cpy f h sp.toNatClampNeg dp.toNatClampNeg n.toNatClampNeg))) = ws') (kk : Wk p l e R s m args below meth c Q A g nL n1 n2 ws' lv (pc + 3) st) : Wk p l e R s m args below meth c Q A g nL n1 n2 ws lv pc (.int n :: .int dp :: .ref a :: .int sp :: .ref a0 :: st) := by
  intro H locs ls hP hD hS hl
  subst hw
  exact va_copyi (D := g.1) (cl := vwCl) (ty := .int) X.1 X.2.1 (by rw [X.2.2.1]; exact hl.1.symm) X.2.2.2.1 (X.2.2.2.2.1 _ hm1) (X.2.2.2.2.1 _ hm2) (X.2.2.2.2.1 _ hm3) (X.2.2.2.2.1 _ hm4) X.2.2.2.2.2.1.1 hP hD hS q0 q1 1 1 ha0 ha1 rfl rfl rfl h1 h2 h3 h4 h5 (fun _ _ => rfl) hf hlo hd (fun H1 locs1 hP hD hS => kk H1 locs1 ls hP hD hS hl)
end KC
end
section
theorem dX8_has_0 : decode cX8_has 0 = .ok (.iload_n 1, 1) := by decide +kernel
theorem dX8_has_1 : decode cX8_has 1 = .ok (.ifCond .lt 15, 3) := by decide +kernel
theorem dX8_has_4 : decode cX8_has 4 = .ok (.iload_n 1, 1) := by decide +kernel
theorem dX8_has_5 : decode cX8_has 5 = .ok (.aload_n 0, 1) := by decide +kernel
theorem dX8_has_6 : decode cX8_has 6 = .ok (.getfield 7, 3) := by decide +kernel
theorem dX8_has_9 : decode cX8_has 9 = .ok (.if_icmp .ge 7, 3) := by decide +kernel
theorem dX8_has_12 : decode cX8_has 12 = .ok (.iconst 1, 1) := by decide +kernel
theorem dX8_has_13 : decode cX8_has 13 = .ok (.goto 4, 3) := by decide +kernel
theorem dX8_has_16 : decode cX8_has 16 = .ok (.iconst 0, 1) := by decide +kernel
theorem dX8_has_17 : decode cX8_has 17 = .ok (.ireturn, 1) := by decide +kernel
set_option maxHeartbeats 4000000 in
set_option maxRecDepth 100000 in
theorem t_has (l : Launch) (g : Gx) (h0 : Nat) (p0 : Int32) (v0h0 : Value) (v1h0 : Value) (v2h0 : Value) (cn : Int32) : cI l g yX8_has cX8_has 2 (some .boolean) 0 0 0 0 [.ref h0, .int p0] [(h0, .inr (8, [v0h0, v1h0, v2h0, .int cn]))] (fun r w => (r = if p0 < 0 ∨ cn ≤ p0 then 0 else 1) ∧ w = [(h0, .inr (8, [v0h0, v1h0, v2h0, .int cn]))]) := by
  refine cI.of (by decide) (Nat.le_of_ble_eq_true rfl) ?_
  intro p e s m args below meth c A X hr hi
  refine k_lveq [(0, .ref h0), (1, .int p0)] rfl ?_
  refine k_iload_n X dX8_has_0 1 rfl ?_
  refine k_if_lt 16 X dX8_has_1 (by decide) (fun h_1 => ?_) (fun h_1 => ?_)
  · skip
    refine k_iconst (v := 0) X dX8_has_16 (by decide) ?_
    exact k_zret X hr (by first | rfl | decide) dX8_has_17 (Nat.le_of_ble_eq_true rfl) (Nat.le_of_ble_eq_true rfl) [0] (by decide) rfl rfl ⟨(by simp [*]), rfl⟩
  · skip
    refine k_iload_n X dX8_has_4 1 rfl ?_
    refine k_aload_n X dX8_has_5 0 rfl ?_
    refine k_get (ci := 8) X inlX8 rfl 3 (by decide) dX8_has_6 mw100 0 rfl rfl ?_
    refine k_ic_ge 16 X dX8_has_9 (by decide) (fun h_2 => ?_) (fun h_2 => ?_)
    · skip
      refine k_iconst (v := 0) X dX8_has_16 (by decide) ?_
      exact k_zret X hr (by first | rfl | decide) dX8_has_17 (Nat.le_of_ble_eq_true rfl) (Nat.le_of_ble_eq_true rfl) [0] (by decide) rfl rfl ⟨(by simp [*]), rfl⟩
    · skip
      refine k_iconst (v := 1) X dX8_has_12 (by decide) ?_
      refine k_goto 17 X dX8_has_13 (by decide) ?_
      exact k_zret X hr (by first | rfl | decide) dX8_has_17 (Nat.le_of_ble_eq_true rfl) (Nat.le_of_ble_eq_true rfl) [0] (by decide) rfl rfl ⟨(by simp [*]), rfl⟩

theorem dX8_isFull_0 : decode cX8_isFull 0 = .ok (.aload_n 0, 1) := by decide +kernel
theorem dX8_isFull_1 : decode cX8_isFull 1 = .ok (.getfield 7, 3) := by decide +kernel
theorem dX8_isFull_4 : decode cX8_isFull 4 = .ok (.aload_n 0, 1) := by decide +kernel
theorem dX8_isFull_5 : decode cX8_isFull 5 = .ok (.getfield 19, 3) := by decide +kernel
theorem dX8_isFull_8 : decode cX8_isFull 8 = .ok (.if_icmp .lt 7, 3) := by decide +kernel
theorem dX8_isFull_11 : decode cX8_isFull 11 = .ok (.iconst 1, 1) := by decide +kernel
theorem dX8_isFull_12 : decode cX8_isFull 12 = .ok (.goto 4, 3) := by decide +kernel
theorem dX8_isFull_15 : decode cX8_isFull 15 = .ok (.iconst 0, 1) := by decide +kernel
theorem dX8_isFull_16 : decode cX8_isFull 16 = .ok (.ireturn, 1) := by decide +kernel
set_option maxHeartbeats 4000000 in
set_option maxRecDepth 100000 in
theorem t_isFull (l : Launch) (g : Gx) (h0 : Nat) (R : Int32) (v1h0 : Value) (v2h0 : Value) (cn : Int32) : cI l g yX8_isFull cX8_isFull 1 (some .boolean) 0 0 0 0 [.ref h0] [(h0, .inr (8, [.int R, v1h0, v2h0, .int cn]))] (fun r w => (r = if cn < R then 0 else 1) ∧ w = [(h0, .inr (8, [.int R, v1h0, v2h0, .int cn]))]) := by
  refine cI.of (by decide) (Nat.le_of_ble_eq_true rfl) ?_
  intro p e s m args below meth c A X hr hi
  refine k_lveq [(0, .ref h0)] rfl ?_
  refine k_aload_n X dX8_isFull_0 0 rfl ?_
  refine k_get (ci := 8) X inlX8 rfl 3 (by decide) dX8_isFull_1 mw100 0 rfl rfl ?_
  refine k_aload_n X dX8_isFull_4 0 rfl ?_
  refine k_get (ci := 8) X inlX8 rfl 0 (by decide) dX8_isFull_5 mw105 0 rfl rfl ?_
  refine k_ic_lt 15 X dX8_isFull_8 (by decide) (fun h_1 => ?_) (fun h_1 => ?_)
  · skip
    refine k_iconst (v := 0) X dX8_isFull_15 (by decide) ?_
    exact k_zret X hr (by first | rfl | decide) dX8_isFull_16 (Nat.le_of_ble_eq_true rfl) (Nat.le_of_ble_eq_true rfl) [0] (by decide) rfl rfl ⟨(by simp [*]), rfl⟩
  · skip
    refine k_iconst (v := 1) X dX8_isFull_11 (by decide) ?_
    refine k_goto 16 X dX8_isFull_12 (by decide) ?_
    exact k_zret X hr (by first | rfl | decide) dX8_isFull_16 (Nat.le_of_ble_eq_true rfl) (Nat.le_of_ble_eq_true rfl) [0] (by decide) rfl rfl ⟨(by simp [*]), rfl⟩

theorem dX8_clear_0 : decode cX8_clear 0 = .ok (.aload_n 0, 1) := by decide +kernel
theorem dX8_clear_1 : decode cX8_clear 1 = .ok (.iconst 0, 1) := by decide +kernel
theorem dX8_clear_2 : decode cX8_clear 2 = .ok (.putfield 7, 3) := by decide +kernel
theorem dX8_clear_5 : decode cX8_clear 5 = .ok (.return_, 1) := by decide +kernel
set_option maxHeartbeats 4000000 in
set_option maxRecDepth 100000 in
theorem t_clear (l : Launch) (g : Gx) (h0 : Nat) (v0h0 : Value) (v1h0 : Value) (v2h0 : Value) (cn : Int32) : cV l g yX8_clear cX8_clear 1 0 0 0 0 [.ref h0] [(h0, .inr (8, [v0h0, v1h0, v2h0, .int cn]))] (fun w => w = [(h0, .inr (8, [v0h0, v1h0, v2h0, .int 0]))]) := by
  refine cV.of (by decide) (Nat.le_of_ble_eq_true rfl) ?_
  intro p e s m args below meth c A X hr hi
  refine k_lveq [(0, .ref h0)] rfl ?_
  refine k_aload_n X dX8_clear_0 0 rfl ?_
  refine k_iconst (v := 0) X dX8_clear_1 (by decide) ?_
  refine k_put (ci := 8) [(h0, .inr (8, [v0h0, v1h0, v2h0, .int 0]))] X inlX8 rfl tyX8_ok nmX8 3 (by decide) rfl dX8_clear_2 mw100 0 rfl rfl rfl (Nat.le_of_ble_eq_true rfl) rfl ?_
  exact k_vret X hr dX8_clear_5 (Nat.le_of_ble_eq_true rfl) (Nat.le_of_ble_eq_true rfl) [0] (by decide) rfl rfl rfl

theorem dX8_at_0 : decode cX8_at 0 = .ok (.iload_n 1, 1) := by decide +kernel
theorem dX8_at_1 : decode cX8_at 1 = .ok (.ifCond .lt 23, 3) := by decide +kernel
theorem dX8_at_4 : decode cX8_at 4 = .ok (.iload_n 1, 1) := by decide +kernel
theorem dX8_at_5 : decode cX8_at 5 = .ok (.aload_n 0, 1) := by decide +kernel
theorem dX8_at_6 : decode cX8_at 6 = .ok (.getfield 19, 3) := by decide +kernel
theorem dX8_at_9 : decode cX8_at 9 = .ok (.if_icmp .ge 15, 3) := by decide +kernel
theorem dX8_at_12 : decode cX8_at 12 = .ok (.iload_n 2, 1) := by decide +kernel
theorem dX8_at_13 : decode cX8_at 13 = .ok (.ifCond .lt 11, 3) := by decide +kernel
theorem dX8_at_16 : decode cX8_at 16 = .ok (.iload_n 2, 1) := by decide +kernel
theorem dX8_at_17 : decode cX8_at 17 = .ok (.aload_n 0, 1) := by decide +kernel
theorem dX8_at_18 : decode cX8_at 18 = .ok (.getfield 22, 3) := by decide +kernel
theorem dX8_at_21 : decode cX8_at 21 = .ok (.if_icmp .lt 5, 3) := by decide +kernel
theorem dX8_at_24 : decode cX8_at 24 = .ok (.iconst 0, 1) := by decide +kernel
theorem dX8_at_25 : decode cX8_at 25 = .ok (.ireturn, 1) := by decide +kernel
theorem dX8_at_26 : decode cX8_at 26 = .ok (.aload_n 0, 1) := by decide +kernel
theorem dX8_at_27 : decode cX8_at 27 = .ok (.getfield 25, 3) := by decide +kernel
theorem dX8_at_30 : decode cX8_at 30 = .ok (.iload_n 1, 1) := by decide +kernel
theorem dX8_at_31 : decode cX8_at 31 = .ok (.aload_n 0, 1) := by decide +kernel
theorem dX8_at_32 : decode cX8_at 32 = .ok (.getfield 22, 3) := by decide +kernel
theorem dX8_at_35 : decode cX8_at 35 = .ok (.imul, 1) := by decide +kernel
theorem dX8_at_36 : decode cX8_at 36 = .ok (.iload_n 2, 1) := by decide +kernel
theorem dX8_at_37 : decode cX8_at 37 = .ok (.iadd, 1) := by decide +kernel
theorem dX8_at_38 : decode cX8_at 38 = .ok (.iaload, 1) := by decide +kernel
theorem dX8_at_39 : decode cX8_at 39 = .ok (.ireturn, 1) := by decide +kernel
set_option maxHeartbeats 4000000 in
set_option maxRecDepth 100000 in
theorem t_at (l : Launch) (g : Gx) (h0 : Nat) (p0 : Int32) (p1 : Int32) (R : Int32) (V : Int32) (qc : Nat) (cn : Int32) (N : Nat) (f : Nat → Int32) (hT : TbOk R V N) : cI l g yX8_at cX8_at 3 (some .int) 0 0 0 0 [.ref h0, .int p0, .int p1] [(h0, .inr (8, [.int R, .int V, .ref qc, .int cn])), (qc, .inl (g.2.2.1, N, .inl f))] (fun r w => (r = tbAt R V f p0 p1) ∧ w = [(h0, .inr (8, [.int R, .int V, .ref qc, .int cn])), (qc, .inl (g.2.2.1, N, .inl f))]) := by
  refine cI.of (by decide) (Nat.le_of_ble_eq_true rfl) ?_
  intro p e s m args below meth c A X hr hi
  refine k_lveq [(0, .ref h0), (1, .int p0), (2, .int p1)] rfl ?_
  refine k_iload_n X dX8_at_0 1 rfl ?_
  refine k_if_lt 24 X dX8_at_1 (by decide) (fun h_1 => ?_) (fun h_1 => ?_)
  · skip
    refine k_iconst (v := 0) X dX8_at_24 (by decide) ?_
    exact k_iret X hr dX8_at_25 (Nat.le_of_ble_eq_true rfl) (Nat.le_of_ble_eq_true rfl) [0, 1] (by decide) rfl rfl ⟨(by simp [tbAt, *]), rfl⟩
  · skip
    refine k_iload_n X dX8_at_4 1 rfl ?_
    refine k_aload_n X dX8_at_5 0 rfl ?_
    refine k_get (ci := 8) X inlX8 rfl 0 (by decide) dX8_at_6 mw105 0 rfl rfl ?_
    refine k_ic_ge 24 X dX8_at_9 (by decide) (fun h_2 => ?_) (fun h_2 => ?_)
    · skip
      refine k_iconst (v := 0) X dX8_at_24 (by decide) ?_
      exact k_iret X hr dX8_at_25 (Nat.le_of_ble_eq_true rfl) (Nat.le_of_ble_eq_true rfl) [0, 1] (by decide) rfl rfl ⟨(by simp [tbAt, *]), rfl⟩
    · skip
      refine k_iload_n X dX8_at_12 2 rfl ?_
      refine k_if_lt 24 X dX8_at_13 (by decide) (fun h_3 => ?_) (fun h_3 => ?_)
      · skip
        refine k_iconst (v := 0) X dX8_at_24 (by decide) ?_
        exact k_iret X hr dX8_at_25 (Nat.le_of_ble_eq_true rfl) (Nat.le_of_ble_eq_true rfl) [0, 1] (by decide) rfl rfl ⟨(by simp [tbAt, *]), rfl⟩
      · skip
        refine k_iload_n X dX8_at_16 2 rfl ?_
        refine k_aload_n X dX8_at_17 0 rfl ?_
        refine k_get (ci := 8) X inlX8 rfl 1 (by decide) dX8_at_18 mw106 0 rfl rfl ?_
        refine k_ic_lt 26 X dX8_at_21 (by decide) (fun h_4 => ?_) (fun h_4 => ?_)
        · skip
          refine k_aload_n X dX8_at_26 0 rfl ?_
          refine k_get (ci := 8) X inlX8 rfl 2 (by decide) dX8_at_27 mw108 0 rfl rfl ?_
          refine k_iload_n X dX8_at_30 1 rfl ?_
          refine k_aload_n X dX8_at_31 0 rfl ?_
          refine k_get (ci := 8) X inlX8 rfl 1 (by decide) dX8_at_32 mw106 0 rfl rfl ?_
          refine k_imul X dX8_at_35 ?_
          refine k_nm (fun z_5 ez_5 => ?_)
          refine k_iload_n X dX8_at_36 2 rfl ?_
          refine k_iadd X dX8_at_37 ?_
          refine k_nm (fun z_6 ez_6 => ?_)
          refine k_iald X dX8_at_38 1 rfl (tb_in hT (by assumption) (by assumption) (by assumption) (by assumption) (by assumption) (by assumption)) ?_
          refine k_nm (fun z_7 ez_7 => ?_)
          exact k_iret X hr dX8_at_39 (Nat.le_of_ble_eq_true rfl) (Nat.le_of_ble_eq_true rfl) [0, 1] (by decide) rfl rfl ⟨(by simp [tbAt, *]), rfl⟩
        · skip
          refine k_iconst (v := 0) X dX8_at_24 (by decide) ?_
          exact k_iret X hr dX8_at_25 (Nat.le_of_ble_eq_true rfl) (Nat.le_of_ble_eq_true rfl) [0, 1] (by decide) rfl rfl ⟨(by simp [tbAt, *]), rfl⟩

theorem dX8_put_0 : decode cX8_put 0 = .ok (.iload_n 1, 1) := by decide +kernel
theorem dX8_put_1 : decode cX8_put 1 = .ok (.ifCond .lt 37, 3) := by decide +kernel
theorem dX8_put_4 : decode cX8_put 4 = .ok (.iload_n 1, 1) := by decide +kernel
theorem dX8_put_5 : decode cX8_put 5 = .ok (.aload_n 0, 1) := by decide +kernel
theorem dX8_put_6 : decode cX8_put 6 = .ok (.getfield 19, 3) := by decide +kernel
theorem dX8_put_9 : decode cX8_put 9 = .ok (.if_icmp .ge 29, 3) := by decide +kernel
theorem dX8_put_12 : decode cX8_put 12 = .ok (.iload_n 2, 1) := by decide +kernel
theorem dX8_put_13 : decode cX8_put 13 = .ok (.ifCond .lt 25, 3) := by decide +kernel
theorem dX8_put_16 : decode cX8_put 16 = .ok (.iload_n 2, 1) := by decide +kernel
theorem dX8_put_17 : decode cX8_put 17 = .ok (.aload_n 0, 1) := by decide +kernel
theorem dX8_put_18 : decode cX8_put 18 = .ok (.getfield 22, 3) := by decide +kernel
theorem dX8_put_21 : decode cX8_put 21 = .ok (.if_icmp .ge 17, 3) := by decide +kernel
theorem dX8_put_24 : decode cX8_put 24 = .ok (.aload_n 0, 1) := by decide +kernel
theorem dX8_put_25 : decode cX8_put 25 = .ok (.getfield 25, 3) := by decide +kernel
theorem dX8_put_28 : decode cX8_put 28 = .ok (.iload_n 1, 1) := by decide +kernel
theorem dX8_put_29 : decode cX8_put 29 = .ok (.aload_n 0, 1) := by decide +kernel
theorem dX8_put_30 : decode cX8_put 30 = .ok (.getfield 22, 3) := by decide +kernel
theorem dX8_put_33 : decode cX8_put 33 = .ok (.imul, 1) := by decide +kernel
theorem dX8_put_34 : decode cX8_put 34 = .ok (.iload_n 2, 1) := by decide +kernel
theorem dX8_put_35 : decode cX8_put 35 = .ok (.iadd, 1) := by decide +kernel
theorem dX8_put_36 : decode cX8_put 36 = .ok (.iload_n 3, 1) := by decide +kernel
theorem dX8_put_37 : decode cX8_put 37 = .ok (.iastore, 1) := by decide +kernel
theorem dX8_put_38 : decode cX8_put 38 = .ok (.return_, 1) := by decide +kernel
set_option maxHeartbeats 4000000 in
set_option maxRecDepth 100000 in
theorem t_put (l : Launch) (g : Gx) (h0 : Nat) (p0 : Int32) (p1 : Int32) (p2 : Int32) (R : Int32) (V : Int32) (qc : Nat) (cn : Int32) (N : Nat) (f : Nat → Int32) (hT : TbOk R V N) : cV l g yX8_put cX8_put 4 0 0 0 0 [.ref h0, .int p0, .int p1, .int p2] [(h0, .inr (8, [.int R, .int V, .ref qc, .int cn])), (qc, .inl (g.2.2.1, N, .inl f))] (fun w => ∃ (fa : Nat → Int32), (fa = tbPut R V f p0 p1 p2) ∧ w = [(h0, .inr (8, [.int R, .int V, .ref qc, .int cn])), (qc, .inl (g.2.2.1, N, .inl fa))]) := by
  refine cV.of (by decide) (Nat.le_of_ble_eq_true rfl) ?_
  intro p e s m args below meth c A X hr hi
  refine k_lveq [(0, .ref h0), (1, .int p0), (2, .int p1), (3, .int p2)] rfl ?_
  refine k_iload_n X dX8_put_0 1 rfl ?_
  refine k_if_lt 38 X dX8_put_1 (by decide) (fun h_1 => ?_) (fun h_1 => ?_)
  · skip
    exact k_vret X hr dX8_put_38 (Nat.le_of_ble_eq_true rfl) (Nat.le_of_ble_eq_true rfl) [0, 1] (by decide) rfl rfl ⟨f, (by simp [tbPut, *]), rfl⟩
  · skip
    refine k_iload_n X dX8_put_4 1 rfl ?_
    refine k_aload_n X dX8_put_5 0 rfl ?_
    refine k_get (ci := 8) X inlX8 rfl 0 (by decide) dX8_put_6 mw105 0 rfl rfl ?_
    refine k_ic_ge 38 X dX8_put_9 (by decide) (fun h_2 => ?_) (fun h_2 => ?_)
    · skip
      exact k_vret X hr dX8_put_38 (Nat.le_of_ble_eq_true rfl) (Nat.le_of_ble_eq_true rfl) [0, 1] (by decide) rfl rfl ⟨f, (by simp [tbPut, *]), rfl⟩
    · skip
      refine k_iload_n X dX8_put_12 2 rfl ?_
      refine k_if_lt 38 X dX8_put_13 (by decide) (fun h_3 => ?_) (fun h_3 => ?_)
      · skip
        exact k_vret X hr dX8_put_38 (Nat.le_of_ble_eq_true rfl) (Nat.le_of_ble_eq_true rfl) [0, 1] (by decide) rfl rfl ⟨f, (by simp [tbPut, *]), rfl⟩
      · skip
        refine k_iload_n X dX8_put_16 2 rfl ?_
        refine k_aload_n X dX8_put_17 0 rfl ?_
        refine k_get (ci := 8) X inlX8 rfl 1 (by decide) dX8_put_18 mw106 0 rfl rfl ?_
        refine k_ic_ge 38 X dX8_put_21 (by decide) (fun h_4 => ?_) (fun h_4 => ?_)
        · skip
          exact k_vret X hr dX8_put_38 (Nat.le_of_ble_eq_true rfl) (Nat.le_of_ble_eq_true rfl) [0, 1] (by decide) rfl rfl ⟨f, (by simp [tbPut, *]), rfl⟩
        · skip
          refine k_aload_n X dX8_put_24 0 rfl ?_
          refine k_get (ci := 8) X inlX8 rfl 2 (by decide) dX8_put_25 mw108 0 rfl rfl ?_
          refine k_iload_n X dX8_put_28 1 rfl ?_
          refine k_aload_n X dX8_put_29 0 rfl ?_
          refine k_get (ci := 8) X inlX8 rfl 1 (by decide) dX8_put_30 mw106 0 rfl rfl ?_
          refine k_imul X dX8_put_33 ?_
          refine k_nm (fun z_5 ez_5 => ?_)
          refine k_iload_n X dX8_put_34 2 rfl ?_
          refine k_iadd X dX8_put_35 ?_
          refine k_nm (fun z_6 ez_6 => ?_)
          refine k_iload_n X dX8_put_36 3 rfl ?_
          refine k_iast [(h0, .inr (8, [.int R, .int V, .ref qc, .int cn])), (qc, .inl (g.2.2.1, N, .inl (upd f (z_6 : Int32).toNatClampNeg p2)))] X dX8_put_37 1 rfl (tb_in hT (by assumption) (by assumption) (by assumption) (by rw [lt_I]; rw [le_I] at *; omega) (by assumption) (by assumption)) rfl ?_
          exact k_vret X hr dX8_put_38 (Nat.le_of_ble_eq_true rfl) (Nat.le_of_ble_eq_true rfl) [0, 1] (by decide) rfl rfl ⟨(upd f (z_6 : Int32).toNatClampNeg p2), (by simp [tbPut, *]), rfl⟩

theorem dX8_howMany_0 : decode cX8_howMany 0 = .ok (.iconst 0, 1) := by decide +kernel
theorem dX8_howMany_1 : decode cX8_howMany 1 = .ok (.istore_n 3, 1) := by decide +kernel
theorem dX8_howMany_2 : decode cX8_howMany 2 = .ok (.iconst 0, 1) := by decide +kernel
theorem dX8_howMany_3 : decode cX8_howMany 3 = .ok (.istore 4, 2) := by decide +kernel
theorem dX8_howMany_5 : decode cX8_howMany 5 = .ok (.iload 4, 2) := by decide +kernel
theorem dX8_howMany_7 : decode cX8_howMany 7 = .ok (.aload_n 0, 1) := by decide +kernel
theorem dX8_howMany_8 : decode cX8_howMany 8 = .ok (.getfield 7, 3) := by decide +kernel
theorem dX8_howMany_11 : decode cX8_howMany 11 = .ok (.if_icmp .ge 23, 3) := by decide +kernel
theorem dX8_howMany_14 : decode cX8_howMany 14 = .ok (.aload_n 0, 1) := by decide +kernel
theorem dX8_howMany_15 : decode cX8_howMany 15 = .ok (.iload 4, 2) := by decide +kernel
theorem dX8_howMany_17 : decode cX8_howMany 17 = .ok (.iload_n 1, 1) := by decide +kernel
theorem dX8_howMany_18 : decode cX8_howMany 18 = .ok (.invokevirtual 37, 3) := by decide +kernel
theorem dX8_howMany_21 : decode cX8_howMany 21 = .ok (.iload_n 2, 1) := by decide +kernel
theorem dX8_howMany_22 : decode cX8_howMany 22 = .ok (.if_icmp .ne 6, 3) := by decide +kernel
theorem dX8_howMany_25 : decode cX8_howMany 25 = .ok (.iinc 3 1, 3) := by decide +kernel
theorem dX8_howMany_28 : decode cX8_howMany 28 = .ok (.iinc 4 1, 3) := by decide +kernel
theorem dX8_howMany_31 : decode cX8_howMany 31 = .ok (.goto (-26), 3) := by decide +kernel
theorem dX8_howMany_34 : decode cX8_howMany 34 = .ok (.iload_n 3, 1) := by decide +kernel
theorem dX8_howMany_35 : decode cX8_howMany 35 = .ok (.ireturn, 1) := by decide +kernel
set_option maxHeartbeats 4000000 in
set_option maxRecDepth 100000 in
theorem t_howMany (l : Launch) (g : Gx) (h0 : Nat) (p0 : Int32) (p1 : Int32) (R : Int32) (V : Int32) (qc : Nat) (cn : Int32) (N : Nat) (f : Nat → Int32) (hT : TbOk R V N) : cI l g yX8_howMany cX8_howMany 5 (some .int) 1 22 0 0 [.ref h0, .int p0, .int p1] [(h0, .inr (8, [.int R, .int V, .ref qc, .int cn])), (qc, .inl (g.2.2.1, N, .inl f))] (fun r w => w = [(h0, .inr (8, [.int R, .int V, .ref qc, .int cn])), (qc, .inl (g.2.2.1, N, .inl f))]) := by
  refine cI.of (by decide) (Nat.le_of_ble_eq_true rfl) ?_
  intro p e s m args below meth c A X hr hi
  refine k_lveq [(0, .ref h0), (1, .int p0), (2, .int p1)] rfl ?_
  refine k_iconst (v := 0) X dX8_howMany_0 (by decide) ?_
  refine k_istore_n [(3, .int 0), (0, .ref h0), (1, .int p0), (2, .int p1)] X dX8_howMany_1 (by decide) rfl ?_
  refine k_iconst (v := 0) X dX8_howMany_2 (by decide) ?_
  refine k_istore [(4, .int 0), (3, .int 0), (0, .ref h0), (1, .int p0), (2, .int p1)] X dX8_howMany_3 (by decide) rfl ?_
  refine (fun hL : ∀ (n : Nat) (many : Int32) (k : Int32), (cn.toInt - k.toInt).toNat = n → Wk p l e _ s m args below meth c _ A g _ _ _ [(h0, .inr (8, [.int R, .int V, .ref qc, .int cn])), (qc, .inl (g.2.2.1, N, .inl f))] [(4, .int k), (3, .int many), (0, .ref h0), (1, .int p0), (2, .int p1)] 5 [] => hL _ 0 0 rfl ) ?_
  refine fun n => Nat.strongRecOn n (fun n ih => ?_)
  intro many k hm 
  refine k_iload X dX8_howMany_5 0 rfl ?_
  refine k_aload_n X dX8_howMany_7 2 rfl ?_
  refine k_get (ci := 8) X inlX8 rfl 3 (by decide) dX8_howMany_8 mw100 0 rfl rfl ?_
  refine k_ic_ge 34 X dX8_howMany_11 (by decide) (fun h_1 => ?_) (fun h_1 => ?_)
  · skip
    refine k_iload_n X dX8_howMany_34 1 rfl ?_
    exact k_iret X hr dX8_howMany_35 (Nat.le_of_ble_eq_true rfl) (Nat.le_of_ble_eq_true rfl) [0, 1] (by decide) rfl rfl rfl
  · skip
    refine k_aload_n X dX8_howMany_14 2 rfl ?_
    refine k_iload X dX8_howMany_15 0 rfl ?_
    refine k_iload_n X dX8_howMany_17 3 rfl ?_
    refine k_callVI (n := 2) (As := [.int k, .int p0]) (st := []) X [(h0, .inr (8, [.int R, .int V, .ref qc, .int cn])), (qc, .inl (g.2.2.1, N, .inl f))] [] [0, 1] [] (t_at l g h0 k p0 R V qc cn N f hT) dX8_howMany_18 mw655 mw376 mw377 mw64 mw378 rfl 8 rfl rfl 0 _ rfl (by unfold yOk; decide) rfl (Nat.le_of_ble_eq_true rfl) (Nat.le_of_ble_eq_true rfl) (Nat.le_of_ble_eq_true rfl) (Nat.le_of_ble_eq_true rfl) (Nat.le_of_ble_eq_true rfl) rfl rfl (by decide) rfl (by decide) (by decide) ?_
    rintro r_2 w ⟨hr_3, rfl⟩
    refine k_ws [(h0, .inr (8, [.int R, .int V, .ref qc, .int cn])), (qc, .inl (g.2.2.1, N, .inl f))] rfl ?_
    refine k_iload_n X dX8_howMany_21 4 rfl ?_
    refine k_ic_ne 28 X dX8_howMany_22 (by decide) (fun h_4 => ?_) (fun h_4 => ?_)
    · skip
      obtain ⟨z_5, ez_5⟩ : ∃ y : Int32, k + Int32.ofInt 1 = y := ⟨_, rfl⟩
      refine k_iinc z_5 [(4, .int z_5), (3, .int many), (0, .ref h0), (1, .int p0), (2, .int p1)] 0 X dX8_howMany_28 rfl ez_5 (by decide) rfl ?_
      refine k_goto 5 X dX8_howMany_31 (by decide) ?_
      exact ih _ (by rw [← hm]; exact mu_lt (by assumption) (by assumption)) many z_5 rfl 
    · skip
      obtain ⟨z_6, ez_6⟩ : ∃ y : Int32, many + Int32.ofInt 1 = y := ⟨_, rfl⟩
      refine k_iinc z_6 [(3, .int z_6), (4, .int k), (0, .ref h0), (1, .int p0), (2, .int p1)] 1 X dX8_howMany_25 rfl ez_6 (by decide) rfl ?_
      obtain ⟨z_7, ez_7⟩ : ∃ y : Int32, k + Int32.ofInt 1 = y := ⟨_, rfl⟩
      refine k_iinc z_7 [(4, .int z_7), (3, .int z_6), (0, .ref h0), (1, .int p0), (2, .int p1)] 1 X dX8_howMany_28 rfl ez_7 (by decide) rfl ?_
      refine k_goto 5 X dX8_howMany_31 (by decide) ?_
      exact ih _ (by rw [← hm]; exact mu_lt (by assumption) (by assumption)) z_6 z_7 rfl 
end
