-- ===== PART A: goes FIRST, ahead of the names: the tables' words, and 'selects' of the private methods out of them =====
/-- a private method of a class that the tables say can be made, by its rows of tables_1 -/
def lw_okq (q : MethodName × Nat) : Prop := (q.1.cls ≠ "java/lang/invoke/MethodHandle" ∧ q.1.cls ≠ "java/lang/invoke/VarHandle") ∧ Cond.instantiable q.1.cls q.2 ∈ tables_1 ∧ Cond.privateMethod q.1 ∈ tables_1 ∧ Cond.instanceMethod q.1 ∈ tables_1
theorem lw_p0 : lw_okq (⟨"ReelChange", "refuse", "(I)I"⟩, 10) := ⟨⟨by decide +kernel, by decide +kernel⟩, List.mem_of_getElem? (i := 25) (by decide +kernel), List.mem_of_getElem? (i := 399) (by decide +kernel), List.mem_of_getElem? (i := 400) (by decide +kernel)⟩
theorem lw_p1 : lw_okq (⟨"ReelChange$Text", "next", "()V"⟩, 15) := ⟨⟨by decide +kernel, by decide +kernel⟩, List.mem_of_getElem? (i := 33) (by decide +kernel), List.mem_of_getElem? (i := 421) (by decide +kernel), List.mem_of_getElem? (i := 422) (by decide +kernel)⟩
theorem lw_p2 : lw_okq (⟨"ReelChange$Text", "kindAt", "(I)I"⟩, 15) := ⟨⟨by decide +kernel, by decide +kernel⟩, List.mem_of_getElem? (i := 33) (by decide +kernel), List.mem_of_getElem? (i := 425) (by decide +kernel), List.mem_of_getElem? (i := 426) (by decide +kernel)⟩
theorem lw_p3 : lw_okq (⟨"ReelChange$Text", "isLine", "()Z"⟩, 15) := ⟨⟨by decide +kernel, by decide +kernel⟩, List.mem_of_getElem? (i := 33) (by decide +kernel), List.mem_of_getElem? (i := 430) (by decide +kernel), List.mem_of_getElem? (i := 431) (by decide +kernel)⟩
theorem lw_p4 : lw_okq (⟨"ReelChange$Text", "is", "(Ljava/lang/String;)Z"⟩, 15) := ⟨⟨by decide +kernel, by decide +kernel⟩, List.mem_of_getElem? (i := 33) (by decide +kernel), List.mem_of_getElem? (i := 435) (by decide +kernel), List.mem_of_getElem? (i := 436) (by decide +kernel)⟩
theorem lw_p5 : lw_okq (⟨"ReelChange$Text", "isHouseLine", "()Z"⟩, 15) := ⟨⟨by decide +kernel, by decide +kernel⟩, List.mem_of_getElem? (i := 33) (by decide +kernel), List.mem_of_getElem? (i := 487) (by decide +kernel), List.mem_of_getElem? (i := 488) (by decide +kernel)⟩
theorem lw_p6 : lw_okq (⟨"ReelChange$Text", "refuseAt", "(II)Z"⟩, 15) := ⟨⟨by decide +kernel, by decide +kernel⟩, List.mem_of_getElem? (i := 33) (by decide +kernel), List.mem_of_getElem? (i := 491) (by decide +kernel), List.mem_of_getElem? (i := 492) (by decide +kernel)⟩
theorem lw_p7 : lw_okq (⟨"ReelChange$Text", "isNumber", "(Ljava/lang/String;III)Z"⟩, 15) := ⟨⟨by decide +kernel, by decide +kernel⟩, List.mem_of_getElem? (i := 33) (by decide +kernel), List.mem_of_getElem? (i := 496) (by decide +kernel), List.mem_of_getElem? (i := 497) (by decide +kernel)⟩
theorem lw_p8 : lw_okq (⟨"ReelChange$Text", "isLabel", "(Ljava/lang/String;)Z"⟩, 15) := ⟨⟨by decide +kernel, by decide +kernel⟩, List.mem_of_getElem? (i := 33) (by decide +kernel), List.mem_of_getElem? (i := 500) (by decide +kernel), List.mem_of_getElem? (i := 501) (by decide +kernel)⟩
theorem lw_p9 : lw_okq (⟨"ReelChange$Text", "isWhole", "(II)Z"⟩, 15) := ⟨⟨by decide +kernel, by decide +kernel⟩, List.mem_of_getElem? (i := 33) (by decide +kernel), List.mem_of_getElem? (i := 504) (by decide +kernel), List.mem_of_getElem? (i := 505) (by decide +kernel)⟩
theorem lw_p10 : lw_okq (⟨"ReelChange$Text", "isReserved", "()Z"⟩, 15) := ⟨⟨by decide +kernel, by decide +kernel⟩, List.mem_of_getElem? (i := 33) (by decide +kernel), List.mem_of_getElem? (i := 518) (by decide +kernel), List.mem_of_getElem? (i := 519) (by decide +kernel)⟩
theorem lw_p11 : lw_okq (⟨"ReelChange$Text", "isReelLine", "()Z"⟩, 15) := ⟨⟨by decide +kernel, by decide +kernel⟩, List.mem_of_getElem? (i := 33) (by decide +kernel), List.mem_of_getElem? (i := 532) (by decide +kernel), List.mem_of_getElem? (i := 533) (by decide +kernel)⟩
theorem lw_p12 : lw_okq (⟨"ReelChange$Text", "hasRoom", "(LReelChange$Table;)Z"⟩, 15) := ⟨⟨by decide +kernel, by decide +kernel⟩, List.mem_of_getElem? (i := 33) (by decide +kernel), List.mem_of_getElem? (i := 536) (by decide +kernel), List.mem_of_getElem? (i := 537) (by decide +kernel)⟩
theorem lw_p13 : lw_okq (⟨"ReelChange$Text", "isNewName", "(II)Z"⟩, 15) := ⟨⟨by decide +kernel, by decide +kernel⟩, List.mem_of_getElem? (i := 33) (by decide +kernel), List.mem_of_getElem? (i := 544) (by decide +kernel), List.mem_of_getElem? (i := 545) (by decide +kernel)⟩
theorem lw_p14 : lw_okq (⟨"ReelChange$Text", "findName", "()I"⟩, 15) := ⟨⟨by decide +kernel, by decide +kernel⟩, List.mem_of_getElem? (i := 33) (by decide +kernel), List.mem_of_getElem? (i := 548) (by decide +kernel), List.mem_of_getElem? (i := 549) (by decide +kernel)⟩
theorem lw_p15 : lw_okq (⟨"ReelChange$Text", "isTownLine", "()Z"⟩, 15) := ⟨⟨by decide +kernel, by decide +kernel⟩, List.mem_of_getElem? (i := 33) (by decide +kernel), List.mem_of_getElem? (i := 561) (by decide +kernel), List.mem_of_getElem? (i := 562) (by decide +kernel)⟩
def lw_privs_1 : List (MethodName × Nat) := [(⟨"ReelChange", "refuse", "(I)I"⟩, 10), (⟨"ReelChange$Text", "next", "()V"⟩, 15), (⟨"ReelChange$Text", "kindAt", "(I)I"⟩, 15), (⟨"ReelChange$Text", "isLine", "()Z"⟩, 15), (⟨"ReelChange$Text", "is", "(Ljava/lang/String;)Z"⟩, 15), (⟨"ReelChange$Text", "isHouseLine", "()Z"⟩, 15), (⟨"ReelChange$Text", "refuseAt", "(II)Z"⟩, 15), (⟨"ReelChange$Text", "isNumber", "(Ljava/lang/String;III)Z"⟩, 15), (⟨"ReelChange$Text", "isLabel", "(Ljava/lang/String;)Z"⟩, 15), (⟨"ReelChange$Text", "isWhole", "(II)Z"⟩, 15), (⟨"ReelChange$Text", "isReserved", "()Z"⟩, 15), (⟨"ReelChange$Text", "isReelLine", "()Z"⟩, 15), (⟨"ReelChange$Text", "hasRoom", "(LReelChange$Table;)Z"⟩, 15), (⟨"ReelChange$Text", "isNewName", "(II)Z"⟩, 15), (⟨"ReelChange$Text", "findName", "()I"⟩, 15), (⟨"ReelChange$Text", "isTownLine", "()Z"⟩, 15)]
theorem lw_r1 : ∀ q ∈ lw_privs_1, lw_okq q := List.forall_mem_cons.mpr ⟨lw_p0, List.forall_mem_cons.mpr ⟨lw_p1, List.forall_mem_cons.mpr ⟨lw_p2, List.forall_mem_cons.mpr ⟨lw_p3, List.forall_mem_cons.mpr ⟨lw_p4, List.forall_mem_cons.mpr ⟨lw_p5, List.forall_mem_cons.mpr ⟨lw_p6, List.forall_mem_cons.mpr ⟨lw_p7, List.forall_mem_cons.mpr ⟨lw_p8, List.forall_mem_cons.mpr ⟨lw_p9, List.forall_mem_cons.mpr ⟨lw_p10, List.forall_mem_cons.mpr ⟨lw_p11, List.forall_mem_cons.mpr ⟨lw_p12, List.forall_mem_cons.mpr ⟨lw_p13, List.forall_mem_cons.mpr ⟨lw_p14, List.forall_mem_cons.mpr ⟨lw_p15, fun _ h => absurd h List.not_mem_nil⟩⟩⟩⟩⟩⟩⟩⟩⟩⟩⟩⟩⟩⟩⟩⟩
theorem lw_p16 : lw_okq (⟨"ReelChange$Text", "isMarkLine", "()Z"⟩, 15) := ⟨⟨by decide +kernel, by decide +kernel⟩, List.mem_of_getElem? (i := 33) (by decide +kernel), List.mem_of_getElem? (i := 566) (by decide +kernel), List.mem_of_getElem? (i := 567) (by decide +kernel)⟩
theorem lw_p17 : lw_okq (⟨"ReelChange$Text", "isOldName", "(I)Z"⟩, 15) := ⟨⟨by decide +kernel, by decide +kernel⟩, List.mem_of_getElem? (i := 33) (by decide +kernel), List.mem_of_getElem? (i := 570) (by decide +kernel), List.mem_of_getElem? (i := 571) (by decide +kernel)⟩
theorem lw_p18 : lw_okq (⟨"ReelChange$Text", "lastFrame", "(I)I"⟩, 15) := ⟨⟨by decide +kernel, by decide +kernel⟩, List.mem_of_getElem? (i := 33) (by decide +kernel), List.mem_of_getElem? (i := 578) (by decide +kernel), List.mem_of_getElem? (i := 579) (by decide +kernel)⟩
theorem lw_p19 : lw_okq (⟨"ReelChange$Text", "isJoinLine", "()Z"⟩, 15) := ⟨⟨by decide +kernel, by decide +kernel⟩, List.mem_of_getElem? (i := 33) (by decide +kernel), List.mem_of_getElem? (i := 587) (by decide +kernel), List.mem_of_getElem? (i := 588) (by decide +kernel)⟩
theorem lw_p20 : lw_okq (⟨"ReelChange$Text", "isWeakLine", "()Z"⟩, 15) := ⟨⟨by decide +kernel, by decide +kernel⟩, List.mem_of_getElem? (i := 33) (by decide +kernel), List.mem_of_getElem? (i := 592) (by decide +kernel), List.mem_of_getElem? (i := 593) (by decide +kernel)⟩
theorem lw_p21 : lw_okq (⟨"ReelChange$Text", "isManLine", "()Z"⟩, 15) := ⟨⟨by decide +kernel, by decide +kernel⟩, List.mem_of_getElem? (i := 33) (by decide +kernel), List.mem_of_getElem? (i := 597) (by decide +kernel), List.mem_of_getElem? (i := 598) (by decide +kernel)⟩
theorem lw_p22 : lw_okq (⟨"ReelChange$Text", "kindOfMan", "()I"⟩, 15) := ⟨⟨by decide +kernel, by decide +kernel⟩, List.mem_of_getElem? (i := 33) (by decide +kernel), List.mem_of_getElem? (i := 601) (by decide +kernel), List.mem_of_getElem? (i := 602) (by decide +kernel)⟩
theorem lw_p23 : lw_okq (⟨"ReelChange$Text", "isShowsLine", "()Z"⟩, 15) := ⟨⟨by decide +kernel, by decide +kernel⟩, List.mem_of_getElem? (i := 33) (by decide +kernel), List.mem_of_getElem? (i := 610) (by decide +kernel), List.mem_of_getElem? (i := 611) (by decide +kernel)⟩
theorem lw_p24 : lw_okq (⟨"ReelChange$Text", "isBoysLine", "()Z"⟩, 15) := ⟨⟨by decide +kernel, by decide +kernel⟩, List.mem_of_getElem? (i := 33) (by decide +kernel), List.mem_of_getElem? (i := 619) (by decide +kernel), List.mem_of_getElem? (i := 620) (by decide +kernel)⟩
theorem lw_p25 : lw_okq (⟨"ReelChange$Text", "isSeenLine", "()Z"⟩, 15) := ⟨⟨by decide +kernel, by decide +kernel⟩, List.mem_of_getElem? (i := 33) (by decide +kernel), List.mem_of_getElem? (i := 625) (by decide +kernel), List.mem_of_getElem? (i := 626) (by decide +kernel)⟩
theorem lw_p26 : lw_okq (⟨"ReelChange$Text", "isScratchLine", "()Z"⟩, 15) := ⟨⟨by decide +kernel, by decide +kernel⟩, List.mem_of_getElem? (i := 33) (by decide +kernel), List.mem_of_getElem? (i := 631) (by decide +kernel), List.mem_of_getElem? (i := 632) (by decide +kernel)⟩
theorem lw_p27 : lw_okq (⟨"ReelChange$Text", "isFollowed", "()Z"⟩, 15) := ⟨⟨by decide +kernel, by decide +kernel⟩, List.mem_of_getElem? (i := 33) (by decide +kernel), List.mem_of_getElem? (i := 635) (by decide +kernel), List.mem_of_getElem? (i := 636) (by decide +kernel)⟩
theorem lw_p28 : lw_okq (⟨"ReelChange", "tell", "(I)I"⟩, 10) := ⟨⟨by decide +kernel, by decide +kernel⟩, List.mem_of_getElem? (i := 25) (by decide +kernel), List.mem_of_getElem? (i := 660) (by decide +kernel), List.mem_of_getElem? (i := 661) (by decide +kernel)⟩
theorem lw_p29 : lw_okq (⟨"ReelChange", "ofPlace", "(II)I"⟩, 10) := ⟨⟨by decide +kernel, by decide +kernel⟩, List.mem_of_getElem? (i := 25) (by decide +kernel), List.mem_of_getElem? (i := 704) (by decide +kernel), List.mem_of_getElem? (i := 705) (by decide +kernel)⟩
theorem lw_p30 : lw_okq (⟨"ReelChange", "ofNight", "(III)I"⟩, 10) := ⟨⟨by decide +kernel, by decide +kernel⟩, List.mem_of_getElem? (i := 25) (by decide +kernel), List.mem_of_getElem? (i := 716) (by decide +kernel), List.mem_of_getElem? (i := 717) (by decide +kernel)⟩
theorem lw_p31 : lw_okq (⟨"ReelChange", "runNight", "(I)Z"⟩, 10) := ⟨⟨by decide +kernel, by decide +kernel⟩, List.mem_of_getElem? (i := 25) (by decide +kernel), List.mem_of_getElem? (i := 720) (by decide +kernel), List.mem_of_getElem? (i := 721) (by decide +kernel)⟩
def lw_privs_2 : List (MethodName × Nat) := [(⟨"ReelChange$Text", "isMarkLine", "()Z"⟩, 15), (⟨"ReelChange$Text", "isOldName", "(I)Z"⟩, 15), (⟨"ReelChange$Text", "lastFrame", "(I)I"⟩, 15), (⟨"ReelChange$Text", "isJoinLine", "()Z"⟩, 15), (⟨"ReelChange$Text", "isWeakLine", "()Z"⟩, 15), (⟨"ReelChange$Text", "isManLine", "()Z"⟩, 15), (⟨"ReelChange$Text", "kindOfMan", "()I"⟩, 15), (⟨"ReelChange$Text", "isShowsLine", "()Z"⟩, 15), (⟨"ReelChange$Text", "isBoysLine", "()Z"⟩, 15), (⟨"ReelChange$Text", "isSeenLine", "()Z"⟩, 15), (⟨"ReelChange$Text", "isScratchLine", "()Z"⟩, 15), (⟨"ReelChange$Text", "isFollowed", "()Z"⟩, 15), (⟨"ReelChange", "tell", "(I)I"⟩, 10), (⟨"ReelChange", "ofPlace", "(II)I"⟩, 10), (⟨"ReelChange", "ofNight", "(III)I"⟩, 10), (⟨"ReelChange", "runNight", "(I)Z"⟩, 10)]
theorem lw_r2 : ∀ q ∈ lw_privs_2, lw_okq q := List.forall_mem_cons.mpr ⟨lw_p16, List.forall_mem_cons.mpr ⟨lw_p17, List.forall_mem_cons.mpr ⟨lw_p18, List.forall_mem_cons.mpr ⟨lw_p19, List.forall_mem_cons.mpr ⟨lw_p20, List.forall_mem_cons.mpr ⟨lw_p21, List.forall_mem_cons.mpr ⟨lw_p22, List.forall_mem_cons.mpr ⟨lw_p23, List.forall_mem_cons.mpr ⟨lw_p24, List.forall_mem_cons.mpr ⟨lw_p25, List.forall_mem_cons.mpr ⟨lw_p26, List.forall_mem_cons.mpr ⟨lw_p27, List.forall_mem_cons.mpr ⟨lw_p28, List.forall_mem_cons.mpr ⟨lw_p29, List.forall_mem_cons.mpr ⟨lw_p30, List.forall_mem_cons.mpr ⟨lw_p31, fun _ h => absurd h List.not_mem_nil⟩⟩⟩⟩⟩⟩⟩⟩⟩⟩⟩⟩⟩⟩⟩⟩
theorem lw_p32 : lw_okq (⟨"ReelChange$Night", "goBy", "(II)V"⟩, 9) := ⟨⟨by decide +kernel, by decide +kernel⟩, List.mem_of_getElem? (i := 246) (by decide +kernel), List.mem_of_getElem? (i := 747) (by decide +kernel), List.mem_of_getElem? (i := 748) (by decide +kernel)⟩
theorem lw_p33 : lw_okq (⟨"ReelChange$Night", "showReel", "(LReelChange$House;LReelChange$State;II)V"⟩, 9) := ⟨⟨by decide +kernel, by decide +kernel⟩, List.mem_of_getElem? (i := 246) (by decide +kernel), List.mem_of_getElem? (i := 751) (by decide +kernel), List.mem_of_getElem? (i := 752) (by decide +kernel)⟩
theorem lw_p34 : lw_okq (⟨"ReelChange$Night", "slipNow", "()I"⟩, 9) := ⟨⟨by decide +kernel, by decide +kernel⟩, List.mem_of_getElem? (i := 246) (by decide +kernel), List.mem_of_getElem? (i := 755) (by decide +kernel), List.mem_of_getElem? (i := 756) (by decide +kernel)⟩
theorem lw_p35 : lw_okq (⟨"ReelChange$Night", "draw", "()I"⟩, 9) := ⟨⟨by decide +kernel, by decide +kernel⟩, List.mem_of_getElem? (i := 246) (by decide +kernel), List.mem_of_getElem? (i := 759) (by decide +kernel), List.mem_of_getElem? (i := 760) (by decide +kernel)⟩
theorem lw_p36 : lw_okq (⟨"ReelChange$Night", "snapWeakPlaces", "(LReelChange$House;LReelChange$State;I)V"⟩, 9) := ⟨⟨by decide +kernel, by decide +kernel⟩, List.mem_of_getElem? (i := 246) (by decide +kernel), List.mem_of_getElem? (i := 768) (by decide +kernel), List.mem_of_getElem? (i := 769) (by decide +kernel)⟩
theorem lw_p37 : lw_okq (⟨"ReelChange", "isOpen", "()Z"⟩, 10) := ⟨⟨by decide +kernel, by decide +kernel⟩, List.mem_of_getElem? (i := 25) (by decide +kernel), List.mem_of_getElem? (i := 841) (by decide +kernel), List.mem_of_getElem? (i := 842) (by decide +kernel)⟩
theorem lw_p38 : lw_okq (⟨"ReelChange", "leastSlip", "(I)I"⟩, 10) := ⟨⟨by decide +kernel, by decide +kernel⟩, List.mem_of_getElem? (i := 25) (by decide +kernel), List.mem_of_getElem? (i := 849) (by decide +kernel), List.mem_of_getElem? (i := 850) (by decide +kernel)⟩
theorem lw_p39 : lw_okq (⟨"ReelChange$State", "isMarked", "(III)Z"⟩, 6) := ⟨⟨by decide +kernel, by decide +kernel⟩, List.mem_of_getElem? (i := 45) (by decide +kernel), List.mem_of_getElem? (i := 928) (by decide +kernel), List.mem_of_getElem? (i := 929) (by decide +kernel)⟩
theorem lw_p40 : lw_okq (⟨"ReelChange", "tellPart", "(Z)J"⟩, 10) := ⟨⟨by decide +kernel, by decide +kernel⟩, List.mem_of_getElem? (i := 25) (by decide +kernel), List.mem_of_getElem? (i := 948) (by decide +kernel), List.mem_of_getElem? (i := 949) (by decide +kernel)⟩
theorem lw_p41 : lw_okq (⟨"ReelChange", "nearestMark", "(I)I"⟩, 10) := ⟨⟨by decide +kernel, by decide +kernel⟩, List.mem_of_getElem? (i := 25) (by decide +kernel), List.mem_of_getElem? (i := 968) (by decide +kernel), List.mem_of_getElem? (i := 969) (by decide +kernel)⟩
theorem lw_p42 : lw_okq (⟨"ReelChange", "farFrom", "(II)I"⟩, 10) := ⟨⟨by decide +kernel, by decide +kernel⟩, List.mem_of_getElem? (i := 25) (by decide +kernel), List.mem_of_getElem? (i := 972) (by decide +kernel), List.mem_of_getElem? (i := 973) (by decide +kernel)⟩
theorem lw_p43 : lw_okq (⟨"ReelChange", "lackedBy", "(I)I"⟩, 10) := ⟨⟨by decide +kernel, by decide +kernel⟩, List.mem_of_getElem? (i := 25) (by decide +kernel), List.mem_of_getElem? (i := 985) (by decide +kernel), List.mem_of_getElem? (i := 986) (by decide +kernel)⟩
theorem lw_p44 : lw_okq (⟨"ReelChange", "rideTrouble", "(III)I"⟩, 10) := ⟨⟨by decide +kernel, by decide +kernel⟩, List.mem_of_getElem? (i := 25) (by decide +kernel), List.mem_of_getElem? (i := 1018) (by decide +kernel), List.mem_of_getElem? (i := 1019) (by decide +kernel)⟩
theorem lw_p45 : lw_okq (⟨"ReelChange", "boysMeant", "(I)I"⟩, 10) := ⟨⟨by decide +kernel, by decide +kernel⟩, List.mem_of_getElem? (i := 25) (by decide +kernel), List.mem_of_getElem? (i := 1022) (by decide +kernel), List.mem_of_getElem? (i := 1023) (by decide +kernel)⟩
theorem lw_p46 : lw_okq (⟨"ReelChange", "apartBy", "(I)I"⟩, 10) := ⟨⟨by decide +kernel, by decide +kernel⟩, List.mem_of_getElem? (i := 25) (by decide +kernel), List.mem_of_getElem? (i := 1026) (by decide +kernel), List.mem_of_getElem? (i := 1027) (by decide +kernel)⟩
theorem lw_p47 : lw_okq (⟨"ReelChange$Riders", "soonestBack", "(I)I"⟩, 3) := ⟨⟨by decide +kernel, by decide +kernel⟩, List.mem_of_getElem? (i := 303) (by decide +kernel), List.mem_of_getElem? (i := 1035) (by decide +kernel), List.mem_of_getElem? (i := 1036) (by decide +kernel)⟩
def lw_privs_3 : List (MethodName × Nat) := [(⟨"ReelChange$Night", "goBy", "(II)V"⟩, 9), (⟨"ReelChange$Night", "showReel", "(LReelChange$House;LReelChange$State;II)V"⟩, 9), (⟨"ReelChange$Night", "slipNow", "()I"⟩, 9), (⟨"ReelChange$Night", "draw", "()I"⟩, 9), (⟨"ReelChange$Night", "snapWeakPlaces", "(LReelChange$House;LReelChange$State;I)V"⟩, 9), (⟨"ReelChange", "isOpen", "()Z"⟩, 10), (⟨"ReelChange", "leastSlip", "(I)I"⟩, 10), (⟨"ReelChange$State", "isMarked", "(III)Z"⟩, 6), (⟨"ReelChange", "tellPart", "(Z)J"⟩, 10), (⟨"ReelChange", "nearestMark", "(I)I"⟩, 10), (⟨"ReelChange", "farFrom", "(II)I"⟩, 10), (⟨"ReelChange", "lackedBy", "(I)I"⟩, 10), (⟨"ReelChange", "rideTrouble", "(III)I"⟩, 10), (⟨"ReelChange", "boysMeant", "(I)I"⟩, 10), (⟨"ReelChange", "apartBy", "(I)I"⟩, 10), (⟨"ReelChange$Riders", "soonestBack", "(I)I"⟩, 3)]
theorem lw_r3 : ∀ q ∈ lw_privs_3, lw_okq q := List.forall_mem_cons.mpr ⟨lw_p32, List.forall_mem_cons.mpr ⟨lw_p33, List.forall_mem_cons.mpr ⟨lw_p34, List.forall_mem_cons.mpr ⟨lw_p35, List.forall_mem_cons.mpr ⟨lw_p36, List.forall_mem_cons.mpr ⟨lw_p37, List.forall_mem_cons.mpr ⟨lw_p38, List.forall_mem_cons.mpr ⟨lw_p39, List.forall_mem_cons.mpr ⟨lw_p40, List.forall_mem_cons.mpr ⟨lw_p41, List.forall_mem_cons.mpr ⟨lw_p42, List.forall_mem_cons.mpr ⟨lw_p43, List.forall_mem_cons.mpr ⟨lw_p44, List.forall_mem_cons.mpr ⟨lw_p45, List.forall_mem_cons.mpr ⟨lw_p46, List.forall_mem_cons.mpr ⟨lw_p47, fun _ h => absurd h List.not_mem_nil⟩⟩⟩⟩⟩⟩⟩⟩⟩⟩⟩⟩⟩⟩⟩⟩
theorem lw_p48 : lw_okq (⟨"ReelChange$Exchanger", "sort", "(LReelChange$State;)V"⟩, 3) := ⟨⟨by decide +kernel, by decide +kernel⟩, List.mem_of_getElem? (i := 323) (by decide +kernel), List.mem_of_getElem? (i := 1071) (by decide +kernel), List.mem_of_getElem? (i := 1072) (by decide +kernel)⟩
theorem lw_p49 : lw_okq (⟨"ReelChange$Exchanger", "weigh", "(LReelChange$State;)V"⟩, 3) := ⟨⟨by decide +kernel, by decide +kernel⟩, List.mem_of_getElem? (i := 323) (by decide +kernel), List.mem_of_getElem? (i := 1078) (by decide +kernel), List.mem_of_getElem? (i := 1079) (by decide +kernel)⟩
theorem lw_p50 : lw_okq (⟨"ReelChange", "wasteByDraws", "(III)I"⟩, 10) := ⟨⟨by decide +kernel, by decide +kernel⟩, List.mem_of_getElem? (i := 25) (by decide +kernel), List.mem_of_getElem? (i := 1101) (by decide +kernel), List.mem_of_getElem? (i := 1102) (by decide +kernel)⟩
theorem lw_p51 : lw_okq (⟨"ReelChange", "refuseAct", "(I)Z"⟩, 10) := ⟨⟨by decide +kernel, by decide +kernel⟩, List.mem_of_getElem? (i := 25) (by decide +kernel), List.mem_of_getElem? (i := 1109) (by decide +kernel), List.mem_of_getElem? (i := 1110) (by decide +kernel)⟩
theorem lw_p52 : lw_okq (⟨"ReelChange", "actDone", "()Z"⟩, 10) := ⟨⟨by decide +kernel, by decide +kernel⟩, List.mem_of_getElem? (i := 25) (by decide +kernel), List.mem_of_getElem? (i := 1123) (by decide +kernel), List.mem_of_getElem? (i := 1124) (by decide +kernel)⟩
theorem lw_p53 : lw_okq (⟨"java/lang/Throwable", "fillInStackTrace", "(I)Ljava/lang/Throwable;"⟩, 6) := ⟨⟨by decide +kernel, by decide +kernel⟩, List.mem_of_getElem? (i := 1225) (by decide +kernel), List.mem_of_getElem? (i := 1223) (by decide +kernel), List.mem_of_getElem? (i := 1224) (by decide +kernel)⟩
theorem lw_p54 : lw_okq (⟨"ReelChangeModel", "good", "()V"⟩, 43) := ⟨⟨by decide +kernel, by decide +kernel⟩, List.mem_of_getElem? (i := 1250) (by decide +kernel), List.mem_of_getElem? (i := 1398) (by decide +kernel), List.mem_of_getElem? (i := 1399) (by decide +kernel)⟩
theorem lw_p55 : lw_okq (⟨"ReelChangeModel", "no", "(I)I"⟩, 43) := ⟨⟨by decide +kernel, by decide +kernel⟩, List.mem_of_getElem? (i := 1250) (by decide +kernel), List.mem_of_getElem? (i := 1405) (by decide +kernel), List.mem_of_getElem? (i := 1406) (by decide +kernel)⟩
theorem lw_p56 : lw_okq (⟨"ReelChangeModel", "next", "()V"⟩, 43) := ⟨⟨by decide +kernel, by decide +kernel⟩, List.mem_of_getElem? (i := 1250) (by decide +kernel), List.mem_of_getElem? (i := 1409) (by decide +kernel), List.mem_of_getElem? (i := 1410) (by decide +kernel)⟩
theorem lw_p57 : lw_okq (⟨"ReelChangeModel", "look", "(I)I"⟩, 43) := ⟨⟨by decide +kernel, by decide +kernel⟩, List.mem_of_getElem? (i := 1250) (by decide +kernel), List.mem_of_getElem? (i := 1413) (by decide +kernel), List.mem_of_getElem? (i := 1414) (by decide +kernel)⟩
theorem lw_p58 : lw_okq (⟨"ReelChangeModel", "readLine", "()V"⟩, 43) := ⟨⟨by decide +kernel, by decide +kernel⟩, List.mem_of_getElem? (i := 1250) (by decide +kernel), List.mem_of_getElem? (i := 1423) (by decide +kernel), List.mem_of_getElem? (i := 1424) (by decide +kernel)⟩
theorem lw_p59 : lw_okq (⟨"ReelChangeModel", "isWord", "(Ljava/lang/String;)Z"⟩, 43) := ⟨⟨by decide +kernel, by decide +kernel⟩, List.mem_of_getElem? (i := 1250) (by decide +kernel), List.mem_of_getElem? (i := 1428) (by decide +kernel), List.mem_of_getElem? (i := 1429) (by decide +kernel)⟩
theorem lw_p60 : lw_okq (⟨"ReelChangeModel", "houseLine", "()V"⟩, 43) := ⟨⟨by decide +kernel, by decide +kernel⟩, List.mem_of_getElem? (i := 1250) (by decide +kernel), List.mem_of_getElem? (i := 1434) (by decide +kernel), List.mem_of_getElem? (i := 1435) (by decide +kernel)⟩
theorem lw_p61 : lw_okq (⟨"ReelChangeModel", "bad", "(II)V"⟩, 43) := ⟨⟨by decide +kernel, by decide +kernel⟩, List.mem_of_getElem? (i := 1250) (by decide +kernel), List.mem_of_getElem? (i := 1438) (by decide +kernel), List.mem_of_getElem? (i := 1439) (by decide +kernel)⟩
theorem lw_p62 : lw_okq (⟨"ReelChangeModel", "after", "(Ljava/lang/String;II)I"⟩, 43) := ⟨⟨by decide +kernel, by decide +kernel⟩, List.mem_of_getElem? (i := 1250) (by decide +kernel), List.mem_of_getElem? (i := 1443) (by decide +kernel), List.mem_of_getElem? (i := 1444) (by decide +kernel)⟩
theorem lw_p63 : lw_okq (⟨"ReelChangeModel", "must", "(Ljava/lang/String;)V"⟩, 43) := ⟨⟨by decide +kernel, by decide +kernel⟩, List.mem_of_getElem? (i := 1250) (by decide +kernel), List.mem_of_getElem? (i := 1447) (by decide +kernel), List.mem_of_getElem? (i := 1448) (by decide +kernel)⟩
def lw_privs_4 : List (MethodName × Nat) := [(⟨"ReelChange$Exchanger", "sort", "(LReelChange$State;)V"⟩, 3), (⟨"ReelChange$Exchanger", "weigh", "(LReelChange$State;)V"⟩, 3), (⟨"ReelChange", "wasteByDraws", "(III)I"⟩, 10), (⟨"ReelChange", "refuseAct", "(I)Z"⟩, 10), (⟨"ReelChange", "actDone", "()Z"⟩, 10), (⟨"java/lang/Throwable", "fillInStackTrace", "(I)Ljava/lang/Throwable;"⟩, 6), (⟨"ReelChangeModel", "good", "()V"⟩, 43), (⟨"ReelChangeModel", "no", "(I)I"⟩, 43), (⟨"ReelChangeModel", "next", "()V"⟩, 43), (⟨"ReelChangeModel", "look", "(I)I"⟩, 43), (⟨"ReelChangeModel", "readLine", "()V"⟩, 43), (⟨"ReelChangeModel", "isWord", "(Ljava/lang/String;)Z"⟩, 43), (⟨"ReelChangeModel", "houseLine", "()V"⟩, 43), (⟨"ReelChangeModel", "bad", "(II)V"⟩, 43), (⟨"ReelChangeModel", "after", "(Ljava/lang/String;II)I"⟩, 43), (⟨"ReelChangeModel", "must", "(Ljava/lang/String;)V"⟩, 43)]
theorem lw_r4 : ∀ q ∈ lw_privs_4, lw_okq q := List.forall_mem_cons.mpr ⟨lw_p48, List.forall_mem_cons.mpr ⟨lw_p49, List.forall_mem_cons.mpr ⟨lw_p50, List.forall_mem_cons.mpr ⟨lw_p51, List.forall_mem_cons.mpr ⟨lw_p52, List.forall_mem_cons.mpr ⟨lw_p53, List.forall_mem_cons.mpr ⟨lw_p54, List.forall_mem_cons.mpr ⟨lw_p55, List.forall_mem_cons.mpr ⟨lw_p56, List.forall_mem_cons.mpr ⟨lw_p57, List.forall_mem_cons.mpr ⟨lw_p58, List.forall_mem_cons.mpr ⟨lw_p59, List.forall_mem_cons.mpr ⟨lw_p60, List.forall_mem_cons.mpr ⟨lw_p61, List.forall_mem_cons.mpr ⟨lw_p62, List.forall_mem_cons.mpr ⟨lw_p63, fun _ h => absurd h List.not_mem_nil⟩⟩⟩⟩⟩⟩⟩⟩⟩⟩⟩⟩⟩⟩⟩⟩
theorem lw_p64 : lw_okq (⟨"ReelChangeModel", "takesWord", "(Ljava/lang/String;)Z"⟩, 43) := ⟨⟨by decide +kernel, by decide +kernel⟩, List.mem_of_getElem? (i := 1250) (by decide +kernel), List.mem_of_getElem? (i := 1451) (by decide +kernel), List.mem_of_getElem? (i := 1452) (by decide +kernel)⟩
theorem lw_p65 : lw_okq (⟨"ReelChangeModel", "number", "(II)I"⟩, 43) := ⟨⟨by decide +kernel, by decide +kernel⟩, List.mem_of_getElem? (i := 1250) (by decide +kernel), List.mem_of_getElem? (i := 1455) (by decide +kernel), List.mem_of_getElem? (i := 1456) (by decide +kernel)⟩
theorem lw_p66 : lw_okq (⟨"ReelChangeModel", "numberHere", "(II)I"⟩, 43) := ⟨⟨by decide +kernel, by decide +kernel⟩, List.mem_of_getElem? (i := 1250) (by decide +kernel), List.mem_of_getElem? (i := 1459) (by decide +kernel), List.mem_of_getElem? (i := 1460) (by decide +kernel)⟩
theorem lw_p67 : lw_okq (⟨"ReelChangeModel", "opens", "(Ljava/lang/String;Z)Z"⟩, 43) := ⟨⟨by decide +kernel, by decide +kernel⟩, List.mem_of_getElem? (i := 1250) (by decide +kernel), List.mem_of_getElem? (i := 1469) (by decide +kernel), List.mem_of_getElem? (i := 1470) (by decide +kernel)⟩
theorem lw_p68 : lw_okq (⟨"ReelChangeModel", "reelLine", "()V"⟩, 43) := ⟨⟨by decide +kernel, by decide +kernel⟩, List.mem_of_getElem? (i := 1250) (by decide +kernel), List.mem_of_getElem? (i := 1473) (by decide +kernel), List.mem_of_getElem? (i := 1474) (by decide +kernel)⟩
theorem lw_p69 : lw_okq (⟨"ReelChangeModel", "newName", "(I)V"⟩, 43) := ⟨⟨by decide +kernel, by decide +kernel⟩, List.mem_of_getElem? (i := 1250) (by decide +kernel), List.mem_of_getElem? (i := 1477) (by decide +kernel), List.mem_of_getElem? (i := 1478) (by decide +kernel)⟩
theorem lw_p70 : lw_okq (⟨"ReelChangeModel", "mustName", "()V"⟩, 43) := ⟨⟨by decide +kernel, by decide +kernel⟩, List.mem_of_getElem? (i := 1250) (by decide +kernel), List.mem_of_getElem? (i := 1481) (by decide +kernel), List.mem_of_getElem? (i := 1482) (by decide +kernel)⟩
theorem lw_p71 : lw_okq (⟨"ReelChangeModel", "find", "()I"⟩, 43) := ⟨⟨by decide +kernel, by decide +kernel⟩, List.mem_of_getElem? (i := 1250) (by decide +kernel), List.mem_of_getElem? (i := 1495) (by decide +kernel), List.mem_of_getElem? (i := 1496) (by decide +kernel)⟩
theorem lw_p72 : lw_okq (⟨"ReelChangeModel", "townLine", "()V"⟩, 43) := ⟨⟨by decide +kernel, by decide +kernel⟩, List.mem_of_getElem? (i := 1250) (by decide +kernel), List.mem_of_getElem? (i := 1502) (by decide +kernel), List.mem_of_getElem? (i := 1503) (by decide +kernel)⟩
theorem lw_p73 : lw_okq (⟨"ReelChangeModel", "markLine", "()V"⟩, 43) := ⟨⟨by decide +kernel, by decide +kernel⟩, List.mem_of_getElem? (i := 1250) (by decide +kernel), List.mem_of_getElem? (i := 1507) (by decide +kernel), List.mem_of_getElem? (i := 1508) (by decide +kernel)⟩
theorem lw_p74 : lw_okq (⟨"ReelChangeModel", "reelPassed", "()I"⟩, 43) := ⟨⟨by decide +kernel, by decide +kernel⟩, List.mem_of_getElem? (i := 1250) (by decide +kernel), List.mem_of_getElem? (i := 1511) (by decide +kernel), List.mem_of_getElem? (i := 1512) (by decide +kernel)⟩
theorem lw_p75 : lw_okq (⟨"ReelChangeModel", "named", "(II)I"⟩, 43) := ⟨⟨by decide +kernel, by decide +kernel⟩, List.mem_of_getElem? (i := 1250) (by decide +kernel), List.mem_of_getElem? (i := 1515) (by decide +kernel), List.mem_of_getElem? (i := 1516) (by decide +kernel)⟩
theorem lw_p76 : lw_okq (⟨"ReelChangeModel", "frameOf", "(I)I"⟩, 43) := ⟨⟨by decide +kernel, by decide +kernel⟩, List.mem_of_getElem? (i := 1250) (by decide +kernel), List.mem_of_getElem? (i := 1519) (by decide +kernel), List.mem_of_getElem? (i := 1520) (by decide +kernel)⟩
theorem lw_p77 : lw_okq (⟨"ReelChangeModel", "joinLine", "()V"⟩, 43) := ⟨⟨by decide +kernel, by decide +kernel⟩, List.mem_of_getElem? (i := 1250) (by decide +kernel), List.mem_of_getElem? (i := 1523) (by decide +kernel), List.mem_of_getElem? (i := 1524) (by decide +kernel)⟩
theorem lw_p78 : lw_okq (⟨"ReelChangeModel", "weakLine", "()V"⟩, 43) := ⟨⟨by decide +kernel, by decide +kernel⟩, List.mem_of_getElem? (i := 1250) (by decide +kernel), List.mem_of_getElem? (i := 1528) (by decide +kernel), List.mem_of_getElem? (i := 1529) (by decide +kernel)⟩
theorem lw_p79 : lw_okq (⟨"ReelChangeModel", "manLine", "()V"⟩, 43) := ⟨⟨by decide +kernel, by decide +kernel⟩, List.mem_of_getElem? (i := 1250) (by decide +kernel), List.mem_of_getElem? (i := 1533) (by decide +kernel), List.mem_of_getElem? (i := 1534) (by decide +kernel)⟩
def lw_privs_5 : List (MethodName × Nat) := [(⟨"ReelChangeModel", "takesWord", "(Ljava/lang/String;)Z"⟩, 43), (⟨"ReelChangeModel", "number", "(II)I"⟩, 43), (⟨"ReelChangeModel", "numberHere", "(II)I"⟩, 43), (⟨"ReelChangeModel", "opens", "(Ljava/lang/String;Z)Z"⟩, 43), (⟨"ReelChangeModel", "reelLine", "()V"⟩, 43), (⟨"ReelChangeModel", "newName", "(I)V"⟩, 43), (⟨"ReelChangeModel", "mustName", "()V"⟩, 43), (⟨"ReelChangeModel", "find", "()I"⟩, 43), (⟨"ReelChangeModel", "townLine", "()V"⟩, 43), (⟨"ReelChangeModel", "markLine", "()V"⟩, 43), (⟨"ReelChangeModel", "reelPassed", "()I"⟩, 43), (⟨"ReelChangeModel", "named", "(II)I"⟩, 43), (⟨"ReelChangeModel", "frameOf", "(I)I"⟩, 43), (⟨"ReelChangeModel", "joinLine", "()V"⟩, 43), (⟨"ReelChangeModel", "weakLine", "()V"⟩, 43), (⟨"ReelChangeModel", "manLine", "()V"⟩, 43)]
theorem lw_r5 : ∀ q ∈ lw_privs_5, lw_okq q := List.forall_mem_cons.mpr ⟨lw_p64, List.forall_mem_cons.mpr ⟨lw_p65, List.forall_mem_cons.mpr ⟨lw_p66, List.forall_mem_cons.mpr ⟨lw_p67, List.forall_mem_cons.mpr ⟨lw_p68, List.forall_mem_cons.mpr ⟨lw_p69, List.forall_mem_cons.mpr ⟨lw_p70, List.forall_mem_cons.mpr ⟨lw_p71, List.forall_mem_cons.mpr ⟨lw_p72, List.forall_mem_cons.mpr ⟨lw_p73, List.forall_mem_cons.mpr ⟨lw_p74, List.forall_mem_cons.mpr ⟨lw_p75, List.forall_mem_cons.mpr ⟨lw_p76, List.forall_mem_cons.mpr ⟨lw_p77, List.forall_mem_cons.mpr ⟨lw_p78, List.forall_mem_cons.mpr ⟨lw_p79, fun _ h => absurd h List.not_mem_nil⟩⟩⟩⟩⟩⟩⟩⟩⟩⟩⟩⟩⟩⟩⟩⟩
theorem lw_p80 : lw_okq (⟨"ReelChangeModel", "opensOnce", "(Ljava/lang/String;Z)Z"⟩, 43) := ⟨⟨by decide +kernel, by decide +kernel⟩, List.mem_of_getElem? (i := 1250) (by decide +kernel), List.mem_of_getElem? (i := 1542) (by decide +kernel), List.mem_of_getElem? (i := 1543) (by decide +kernel)⟩
theorem lw_p81 : lw_okq (⟨"ReelChangeModel", "showsLine", "()V"⟩, 43) := ⟨⟨by decide +kernel, by decide +kernel⟩, List.mem_of_getElem? (i := 1250) (by decide +kernel), List.mem_of_getElem? (i := 1546) (by decide +kernel), List.mem_of_getElem? (i := 1547) (by decide +kernel)⟩
theorem lw_p82 : lw_okq (⟨"ReelChangeModel", "comma", "()Z"⟩, 43) := ⟨⟨by decide +kernel, by decide +kernel⟩, List.mem_of_getElem? (i := 1250) (by decide +kernel), List.mem_of_getElem? (i := 1550) (by decide +kernel), List.mem_of_getElem? (i := 1551) (by decide +kernel)⟩
theorem lw_p83 : lw_okq (⟨"ReelChangeModel", "boysLine", "()V"⟩, 43) := ⟨⟨by decide +kernel, by decide +kernel⟩, List.mem_of_getElem? (i := 1250) (by decide +kernel), List.mem_of_getElem? (i := 1554) (by decide +kernel), List.mem_of_getElem? (i := 1555) (by decide +kernel)⟩
theorem lw_p84 : lw_okq (⟨"ReelChangeModel", "seenLine", "()V"⟩, 43) := ⟨⟨by decide +kernel, by decide +kernel⟩, List.mem_of_getElem? (i := 1250) (by decide +kernel), List.mem_of_getElem? (i := 1560) (by decide +kernel), List.mem_of_getElem? (i := 1561) (by decide +kernel)⟩
theorem lw_p85 : lw_okq (⟨"ReelChangeModel", "scratchLine", "()V"⟩, 43) := ⟨⟨by decide +kernel, by decide +kernel⟩, List.mem_of_getElem? (i := 1250) (by decide +kernel), List.mem_of_getElem? (i := 1566) (by decide +kernel), List.mem_of_getElem? (i := 1567) (by decide +kernel)⟩
theorem lw_p86 : lw_okq (⟨"ReelChangeModel", "isReel", "(I)Z"⟩, 43) := ⟨⟨by decide +kernel, by decide +kernel⟩, List.mem_of_getElem? (i := 1250) (by decide +kernel), List.mem_of_getElem? (i := 1585) (by decide +kernel), List.mem_of_getElem? (i := 1586) (by decide +kernel)⟩
theorem lw_p87 : lw_okq (⟨"ReelChangeModel", "marksOf", "(I)I"⟩, 43) := ⟨⟨by decide +kernel, by decide +kernel⟩, List.mem_of_getElem? (i := 1250) (by decide +kernel), List.mem_of_getElem? (i := 1589) (by decide +kernel), List.mem_of_getElem? (i := 1590) (by decide +kernel)⟩
theorem lw_p88 : lw_okq (⟨"ReelChangeModel", "joinsOf", "(I)I"⟩, 43) := ⟨⟨by decide +kernel, by decide +kernel⟩, List.mem_of_getElem? (i := 1250) (by decide +kernel), List.mem_of_getElem? (i := 1593) (by decide +kernel), List.mem_of_getElem? (i := 1594) (by decide +kernel)⟩
theorem lw_p89 : lw_okq (⟨"ReelChangeModel", "isMended", "(I)Z"⟩, 43) := ⟨⟨by decide +kernel, by decide +kernel⟩, List.mem_of_getElem? (i := 1250) (by decide +kernel), List.mem_of_getElem? (i := 1597) (by decide +kernel), List.mem_of_getElem? (i := 1598) (by decide +kernel)⟩
theorem lw_p90 : lw_okq (⟨"ReelChangeModel", "weaksOf", "(I)I"⟩, 43) := ⟨⟨by decide +kernel, by decide +kernel⟩, List.mem_of_getElem? (i := 1250) (by decide +kernel), List.mem_of_getElem? (i := 1604) (by decide +kernel), List.mem_of_getElem? (i := 1605) (by decide +kernel)⟩
theorem lw_p91 : lw_okq (⟨"ReelChangeModel", "markOf", "(II)I"⟩, 43) := ⟨⟨by decide +kernel, by decide +kernel⟩, List.mem_of_getElem? (i := 1250) (by decide +kernel), List.mem_of_getElem? (i := 1612) (by decide +kernel), List.mem_of_getElem? (i := 1613) (by decide +kernel)⟩
theorem lw_p92 : lw_okq (⟨"ReelChangeModel", "isPlace", "(I)Z"⟩, 43) := ⟨⟨by decide +kernel, by decide +kernel⟩, List.mem_of_getElem? (i := 1250) (by decide +kernel), List.mem_of_getElem? (i := 1620) (by decide +kernel), List.mem_of_getElem? (i := 1621) (by decide +kernel)⟩
theorem lw_p93 : lw_okq (⟨"ReelChangeModel", "reelAt", "(I)I"⟩, 43) := ⟨⟨by decide +kernel, by decide +kernel⟩, List.mem_of_getElem? (i := 1250) (by decide +kernel), List.mem_of_getElem? (i := 1624) (by decide +kernel), List.mem_of_getElem? (i := 1625) (by decide +kernel)⟩
theorem lw_p94 : lw_okq (⟨"ReelChangeModel", "canTell", "(II)Z"⟩, 43) := ⟨⟨by decide +kernel, by decide +kernel⟩, List.mem_of_getElem? (i := 1250) (by decide +kernel), List.mem_of_getElem? (i := 1636) (by decide +kernel), List.mem_of_getElem? (i := 1637) (by decide +kernel)⟩
theorem lw_p95 : lw_okq (⟨"ReelChangeModel", "isMan", "(I)Z"⟩, 43) := ⟨⟨by decide +kernel, by decide +kernel⟩, List.mem_of_getElem? (i := 1250) (by decide +kernel), List.mem_of_getElem? (i := 1640) (by decide +kernel), List.mem_of_getElem? (i := 1641) (by decide +kernel)⟩
def lw_privs_6 : List (MethodName × Nat) := [(⟨"ReelChangeModel", "opensOnce", "(Ljava/lang/String;Z)Z"⟩, 43), (⟨"ReelChangeModel", "showsLine", "()V"⟩, 43), (⟨"ReelChangeModel", "comma", "()Z"⟩, 43), (⟨"ReelChangeModel", "boysLine", "()V"⟩, 43), (⟨"ReelChangeModel", "seenLine", "()V"⟩, 43), (⟨"ReelChangeModel", "scratchLine", "()V"⟩, 43), (⟨"ReelChangeModel", "isReel", "(I)Z"⟩, 43), (⟨"ReelChangeModel", "marksOf", "(I)I"⟩, 43), (⟨"ReelChangeModel", "joinsOf", "(I)I"⟩, 43), (⟨"ReelChangeModel", "isMended", "(I)Z"⟩, 43), (⟨"ReelChangeModel", "weaksOf", "(I)I"⟩, 43), (⟨"ReelChangeModel", "markOf", "(II)I"⟩, 43), (⟨"ReelChangeModel", "isPlace", "(I)Z"⟩, 43), (⟨"ReelChangeModel", "reelAt", "(I)I"⟩, 43), (⟨"ReelChangeModel", "canTell", "(II)Z"⟩, 43), (⟨"ReelChangeModel", "isMan", "(I)Z"⟩, 43)]
theorem lw_r6 : ∀ q ∈ lw_privs_6, lw_okq q := List.forall_mem_cons.mpr ⟨lw_p80, List.forall_mem_cons.mpr ⟨lw_p81, List.forall_mem_cons.mpr ⟨lw_p82, List.forall_mem_cons.mpr ⟨lw_p83, List.forall_mem_cons.mpr ⟨lw_p84, List.forall_mem_cons.mpr ⟨lw_p85, List.forall_mem_cons.mpr ⟨lw_p86, List.forall_mem_cons.mpr ⟨lw_p87, List.forall_mem_cons.mpr ⟨lw_p88, List.forall_mem_cons.mpr ⟨lw_p89, List.forall_mem_cons.mpr ⟨lw_p90, List.forall_mem_cons.mpr ⟨lw_p91, List.forall_mem_cons.mpr ⟨lw_p92, List.forall_mem_cons.mpr ⟨lw_p93, List.forall_mem_cons.mpr ⟨lw_p94, List.forall_mem_cons.mpr ⟨lw_p95, fun _ h => absurd h List.not_mem_nil⟩⟩⟩⟩⟩⟩⟩⟩⟩⟩⟩⟩⟩⟩⟩⟩
theorem lw_p96 : lw_okq (⟨"ReelChangeModel", "layTold", "(I)V"⟩, 43) := ⟨⟨by decide +kernel, by decide +kernel⟩, List.mem_of_getElem? (i := 1250) (by decide +kernel), List.mem_of_getElem? (i := 1644) (by decide +kernel), List.mem_of_getElem? (i := 1645) (by decide +kernel)⟩
theorem lw_p97 : lw_okq (⟨"ReelChangeModel", "layNight", "(I)V"⟩, 43) := ⟨⟨by decide +kernel, by decide +kernel⟩, List.mem_of_getElem? (i := 1250) (by decide +kernel), List.mem_of_getElem? (i := 1648) (by decide +kernel), List.mem_of_getElem? (i := 1649) (by decide +kernel)⟩
theorem lw_p98 : lw_okq (⟨"ReelChangeModel", "framesAt", "(I)I"⟩, 43) := ⟨⟨by decide +kernel, by decide +kernel⟩, List.mem_of_getElem? (i := 1250) (by decide +kernel), List.mem_of_getElem? (i := 1652) (by decide +kernel), List.mem_of_getElem? (i := 1653) (by decide +kernel)⟩
theorem lw_p99 : lw_okq (⟨"ReelChangeModel", "isGone", "(I)Z"⟩, 43) := ⟨⟨by decide +kernel, by decide +kernel⟩, List.mem_of_getElem? (i := 1250) (by decide +kernel), List.mem_of_getElem? (i := 1656) (by decide +kernel), List.mem_of_getElem? (i := 1657) (by decide +kernel)⟩
theorem lw_p100 : lw_okq (⟨"ReelChangeModel", "follows", "(IIIIZ)V"⟩, 43) := ⟨⟨by decide +kernel, by decide +kernel⟩, List.mem_of_getElem? (i := 1250) (by decide +kernel), List.mem_of_getElem? (i := 1660) (by decide +kernel), List.mem_of_getElem? (i := 1661) (by decide +kernel)⟩
theorem lw_p101 : lw_okq (⟨"ReelChangeModel", "believesOf", "(II)I"⟩, 43) := ⟨⟨by decide +kernel, by decide +kernel⟩, List.mem_of_getElem? (i := 1250) (by decide +kernel), List.mem_of_getElem? (i := 1664) (by decide +kernel), List.mem_of_getElem? (i := 1665) (by decide +kernel)⟩
theorem lw_p102 : lw_okq (⟨"ReelChangeModel", "tailOf", "(I)I"⟩, 43) := ⟨⟨by decide +kernel, by decide +kernel⟩, List.mem_of_getElem? (i := 1250) (by decide +kernel), List.mem_of_getElem? (i := 1694) (by decide +kernel), List.mem_of_getElem? (i := 1695) (by decide +kernel)⟩
theorem lw_p103 : lw_okq (⟨"ReelChangeModel", "sumOf", "(I)I"⟩, 43) := ⟨⟨by decide +kernel, by decide +kernel⟩, List.mem_of_getElem? (i := 1250) (by decide +kernel), List.mem_of_getElem? (i := 1710) (by decide +kernel), List.mem_of_getElem? (i := 1711) (by decide +kernel)⟩
theorem lw_p104 : lw_okq (⟨"ReelChangeModel", "needsOf", "(I)I"⟩, 43) := ⟨⟨by decide +kernel, by decide +kernel⟩, List.mem_of_getElem? (i := 1250) (by decide +kernel), List.mem_of_getElem? (i := 1726) (by decide +kernel), List.mem_of_getElem? (i := 1727) (by decide +kernel)⟩
theorem lw_p105 : lw_okq (⟨"ReelChangeModel", "burn", "(I)Z"⟩, 43) := ⟨⟨by decide +kernel, by decide +kernel⟩, List.mem_of_getElem? (i := 1250) (by decide +kernel), List.mem_of_getElem? (i := 1734) (by decide +kernel), List.mem_of_getElem? (i := 1735) (by decide +kernel)⟩
theorem lw_p106 : lw_okq (⟨"ReelChangeModel", "freeOf", "(I)I"⟩, 43) := ⟨⟨by decide +kernel, by decide +kernel⟩, List.mem_of_getElem? (i := 1250) (by decide +kernel), List.mem_of_getElem? (i := 1738) (by decide +kernel), List.mem_of_getElem? (i := 1739) (by decide +kernel)⟩
theorem lw_p107 : lw_okq (⟨"ReelChangeModel", "isDot", "(II)Z"⟩, 43) := ⟨⟨by decide +kernel, by decide +kernel⟩, List.mem_of_getElem? (i := 1250) (by decide +kernel), List.mem_of_getElem? (i := 1765) (by decide +kernel), List.mem_of_getElem? (i := 1766) (by decide +kernel)⟩
theorem lw_p108 : lw_okq (⟨"ReelChangeModel", "weightOf", "(II)J"⟩, 43) := ⟨⟨by decide +kernel, by decide +kernel⟩, List.mem_of_getElem? (i := 1250) (by decide +kernel), List.mem_of_getElem? (i := 1769) (by decide +kernel), List.mem_of_getElem? (i := 1770) (by decide +kernel)⟩
theorem lw_p109 : lw_okq (⟨"ReelChangeModel", "allWeights", "(I)J"⟩, 43) := ⟨⟨by decide +kernel, by decide +kernel⟩, List.mem_of_getElem? (i := 1250) (by decide +kernel), List.mem_of_getElem? (i := 1773) (by decide +kernel), List.mem_of_getElem? (i := 1774) (by decide +kernel)⟩
theorem lw_p110 : lw_okq (⟨"ReelChangeModel", "isWeak", "(I)Z"⟩, 43) := ⟨⟨by decide +kernel, by decide +kernel⟩, List.mem_of_getElem? (i := 1250) (by decide +kernel), List.mem_of_getElem? (i := 1796) (by decide +kernel), List.mem_of_getElem? (i := 1797) (by decide +kernel)⟩
theorem lw_p111 : lw_okq (⟨"ReelChangeModel", "signsOf", "(I)I"⟩, 43) := ⟨⟨by decide +kernel, by decide +kernel⟩, List.mem_of_getElem? (i := 1250) (by decide +kernel), List.mem_of_getElem? (i := 1817) (by decide +kernel), List.mem_of_getElem? (i := 1818) (by decide +kernel)⟩
def lw_privs_7 : List (MethodName × Nat) := [(⟨"ReelChangeModel", "layTold", "(I)V"⟩, 43), (⟨"ReelChangeModel", "layNight", "(I)V"⟩, 43), (⟨"ReelChangeModel", "framesAt", "(I)I"⟩, 43), (⟨"ReelChangeModel", "isGone", "(I)Z"⟩, 43), (⟨"ReelChangeModel", "follows", "(IIIIZ)V"⟩, 43), (⟨"ReelChangeModel", "believesOf", "(II)I"⟩, 43), (⟨"ReelChangeModel", "tailOf", "(I)I"⟩, 43), (⟨"ReelChangeModel", "sumOf", "(I)I"⟩, 43), (⟨"ReelChangeModel", "needsOf", "(I)I"⟩, 43), (⟨"ReelChangeModel", "burn", "(I)Z"⟩, 43), (⟨"ReelChangeModel", "freeOf", "(I)I"⟩, 43), (⟨"ReelChangeModel", "isDot", "(II)Z"⟩, 43), (⟨"ReelChangeModel", "weightOf", "(II)J"⟩, 43), (⟨"ReelChangeModel", "allWeights", "(I)J"⟩, 43), (⟨"ReelChangeModel", "isWeak", "(I)Z"⟩, 43), (⟨"ReelChangeModel", "signsOf", "(I)I"⟩, 43)]
theorem lw_r7 : ∀ q ∈ lw_privs_7, lw_okq q := List.forall_mem_cons.mpr ⟨lw_p96, List.forall_mem_cons.mpr ⟨lw_p97, List.forall_mem_cons.mpr ⟨lw_p98, List.forall_mem_cons.mpr ⟨lw_p99, List.forall_mem_cons.mpr ⟨lw_p100, List.forall_mem_cons.mpr ⟨lw_p101, List.forall_mem_cons.mpr ⟨lw_p102, List.forall_mem_cons.mpr ⟨lw_p103, List.forall_mem_cons.mpr ⟨lw_p104, List.forall_mem_cons.mpr ⟨lw_p105, List.forall_mem_cons.mpr ⟨lw_p106, List.forall_mem_cons.mpr ⟨lw_p107, List.forall_mem_cons.mpr ⟨lw_p108, List.forall_mem_cons.mpr ⟨lw_p109, List.forall_mem_cons.mpr ⟨lw_p110, List.forall_mem_cons.mpr ⟨lw_p111, fun _ h => absurd h List.not_mem_nil⟩⟩⟩⟩⟩⟩⟩⟩⟩⟩⟩⟩⟩⟩⟩⟩
theorem lw_p112 : lw_okq (⟨"ReelChangeModel", "bestSlipOf", "(I)I"⟩, 43) := ⟨⟨by decide +kernel, by decide +kernel⟩, List.mem_of_getElem? (i := 1250) (by decide +kernel), List.mem_of_getElem? (i := 1829) (by decide +kernel), List.mem_of_getElem? (i := 1830) (by decide +kernel)⟩
theorem lw_p113 : lw_okq (⟨"ReelChangeModel", "layScratch", "(I)Z"⟩, 43) := ⟨⟨by decide +kernel, by decide +kernel⟩, List.mem_of_getElem? (i := 1250) (by decide +kernel), List.mem_of_getElem? (i := 1841) (by decide +kernel), List.mem_of_getElem? (i := 1842) (by decide +kernel)⟩
theorem lw_p114 : lw_okq (⟨"ReelChangeModel", "farOf", "(II)I"⟩, 43) := ⟨⟨by decide +kernel, by decide +kernel⟩, List.mem_of_getElem? (i := 1250) (by decide +kernel), List.mem_of_getElem? (i := 1845) (by decide +kernel), List.mem_of_getElem? (i := 1846) (by decide +kernel)⟩
theorem lw_p115 : lw_okq (⟨"ReelChangeModel", "boyWhy", "(I)I"⟩, 43) := ⟨⟨by decide +kernel, by decide +kernel⟩, List.mem_of_getElem? (i := 1250) (by decide +kernel), List.mem_of_getElem? (i := 1857) (by decide +kernel), List.mem_of_getElem? (i := 1858) (by decide +kernel)⟩
theorem lw_p116 : lw_okq (⟨"ReelChangeModel", "apartOf", "(II)I"⟩, 43) := ⟨⟨by decide +kernel, by decide +kernel⟩, List.mem_of_getElem? (i := 1250) (by decide +kernel), List.mem_of_getElem? (i := 1861) (by decide +kernel), List.mem_of_getElem? (i := 1862) (by decide +kernel)⟩
theorem lw_p117 : lw_okq (⟨"ReelChangeModel", "carry", "(II)V"⟩, 43) := ⟨⟨by decide +kernel, by decide +kernel⟩, List.mem_of_getElem? (i := 1250) (by decide +kernel), List.mem_of_getElem? (i := 1865) (by decide +kernel), List.mem_of_getElem? (i := 1866) (by decide +kernel)⟩
theorem lw_p118 : lw_okq (⟨"ReelChangeModel", "laySorted", "()V"⟩, 43) := ⟨⟨by decide +kernel, by decide +kernel⟩, List.mem_of_getElem? (i := 1250) (by decide +kernel), List.mem_of_getElem? (i := 1889) (by decide +kernel), List.mem_of_getElem? (i := 1890) (by decide +kernel)⟩
theorem lw_p119 : lw_okq (⟨"ReelChangeModel", "isEven", "(I)Z"⟩, 43) := ⟨⟨by decide +kernel, by decide +kernel⟩, List.mem_of_getElem? (i := 1250) (by decide +kernel), List.mem_of_getElem? (i := 1893) (by decide +kernel), List.mem_of_getElem? (i := 1894) (by decide +kernel)⟩
theorem lw_p120 : lw_okq (⟨"ReelChangeModel", "drawNight", "(I)V"⟩, 43) := ⟨⟨by decide +kernel, by decide +kernel⟩, List.mem_of_getElem? (i := 1250) (by decide +kernel), List.mem_of_getElem? (i := 1902) (by decide +kernel), List.mem_of_getElem? (i := 1903) (by decide +kernel)⟩
theorem lw_p121 : lw_okq (⟨"ReelChangeModel", "drawn", "()I"⟩, 43) := ⟨⟨by decide +kernel, by decide +kernel⟩, List.mem_of_getElem? (i := 1250) (by decide +kernel), List.mem_of_getElem? (i := 1906) (by decide +kernel), List.mem_of_getElem? (i := 1907) (by decide +kernel)⟩
theorem lw_p122 : lw_okq (⟨"ReelChangeModel", "isNot", "(I)Z"⟩, 43) := ⟨⟨by decide +kernel, by decide +kernel⟩, List.mem_of_getElem? (i := 1250) (by decide +kernel), List.mem_of_getElem? (i := 1920) (by decide +kernel), List.mem_of_getElem? (i := 1921) (by decide +kernel)⟩
theorem lw_p123 : lw_okq (⟨"ReelChangeModel", "note", "()V"⟩, 43) := ⟨⟨by decide +kernel, by decide +kernel⟩, List.mem_of_getElem? (i := 1250) (by decide +kernel), List.mem_of_getElem? (i := 1924) (by decide +kernel), List.mem_of_getElem? (i := 1925) (by decide +kernel)⟩
def lw_privs_8 : List (MethodName × Nat) := [(⟨"ReelChangeModel", "bestSlipOf", "(I)I"⟩, 43), (⟨"ReelChangeModel", "layScratch", "(I)Z"⟩, 43), (⟨"ReelChangeModel", "farOf", "(II)I"⟩, 43), (⟨"ReelChangeModel", "boyWhy", "(I)I"⟩, 43), (⟨"ReelChangeModel", "apartOf", "(II)I"⟩, 43), (⟨"ReelChangeModel", "carry", "(II)V"⟩, 43), (⟨"ReelChangeModel", "laySorted", "()V"⟩, 43), (⟨"ReelChangeModel", "isEven", "(I)Z"⟩, 43), (⟨"ReelChangeModel", "drawNight", "(I)V"⟩, 43), (⟨"ReelChangeModel", "drawn", "()I"⟩, 43), (⟨"ReelChangeModel", "isNot", "(I)Z"⟩, 43), (⟨"ReelChangeModel", "note", "()V"⟩, 43)]
theorem lw_r8 : ∀ q ∈ lw_privs_8, lw_okq q := List.forall_mem_cons.mpr ⟨lw_p112, List.forall_mem_cons.mpr ⟨lw_p113, List.forall_mem_cons.mpr ⟨lw_p114, List.forall_mem_cons.mpr ⟨lw_p115, List.forall_mem_cons.mpr ⟨lw_p116, List.forall_mem_cons.mpr ⟨lw_p117, List.forall_mem_cons.mpr ⟨lw_p118, List.forall_mem_cons.mpr ⟨lw_p119, List.forall_mem_cons.mpr ⟨lw_p120, List.forall_mem_cons.mpr ⟨lw_p121, List.forall_mem_cons.mpr ⟨lw_p122, List.forall_mem_cons.mpr ⟨lw_p123, fun _ h => absurd h List.not_mem_nil⟩⟩⟩⟩⟩⟩⟩⟩⟩⟩⟩⟩
def lw_privs : List (MethodName × Nat) := lw_privs_1 ++ (lw_privs_2 ++ (lw_privs_3 ++ (lw_privs_4 ++ (lw_privs_5 ++ (lw_privs_6 ++ (lw_privs_7 ++ (lw_privs_8)))))))
def lw_tbl : List Cond := k2_sels lw_privs ++ tables_1
theorem lw_privs_ok : ∀ q ∈ lw_privs, lw_okq q := by
  show ∀ q ∈ lw_privs_1 ++ (lw_privs_2 ++ (lw_privs_3 ++ (lw_privs_4 ++ (lw_privs_5 ++ (lw_privs_6 ++ (lw_privs_7 ++ (lw_privs_8))))))), lw_okq q
  exact List.forall_mem_append.mpr ⟨lw_r1, List.forall_mem_append.mpr ⟨lw_r2, List.forall_mem_append.mpr ⟨lw_r3, List.forall_mem_append.mpr ⟨lw_r4, List.forall_mem_append.mpr ⟨lw_r5, List.forall_mem_append.mpr ⟨lw_r6, List.forall_mem_append.mpr ⟨lw_r7, lw_r8⟩⟩⟩⟩⟩⟩⟩
theorem goodIn_r {big : List Cond} (ws : List Cond) (ps : List Nat) (hp : ws = ps.filterMap (fun i => big[i]?)) (h : ws.all goodWord = true) : GoodIn big ws := by
  intro w hw
  have h1 := List.all_eq_true.mp h w hw
  rw [hp] at hw
  obtain ⟨i, -, hi⟩ := List.mem_filterMap.mp hw
  have hm : w ∈ big := by first | exact List.mem_of_getElem? hi | exact List.getElem?_mem hi
  exact ⟨hm, good_of_word h1⟩
theorem goodIn_app {big a b : List Cond} (ha : GoodIn big a) (hb : GoodIn big b) : GoodIn big (a ++ b) := fun w h => (List.mem_append.mp h).elim (ha w) (hb w)
theorem goodIn_ca {big a b : List Cond} {c : Cond} (ha : GoodIn big (c :: a)) (hb : GoodIn big b) : GoodIn big (c :: (a ++ b)) := fun w h => (List.mem_cons.mp h).elim (fun e => ha w (List.mem_cons.mpr (Or.inl e))) (fun h => (List.mem_append.mp h).elim (fun h => ha w (List.mem_cons.mpr (Or.inr h))) (hb w))
theorem goodIn_sub {big ws : List Cond} (hm : ∀ w ∈ ws, w ∈ big) (h : ws.all goodWord = true) : GoodIn big ws := fun w hw => ⟨hm w hw, good_of_word (List.all_eq_true.mp h w hw)⟩
def RX0 : String := "ReelChange$Arcs"
def TX0 : u_T := fun k => match k with
  | 0 => ("ReelChange$Arcs", "left", "LReelChange$Table;", true)
  | _ => ("ReelChange$Arcs", "dying", "I", false)
def tyX0 : Nat → FieldType := fun k => match k with
  | 0 => .object "ReelChange$Table"
  | _ => .int
abbrev wsX00 : List Cond := u_ws RX0 TX0 2
theorem nmX0 : ∀ a, a < 2 → ∀ b, b < 2 → a ≠ b → (TX0 a).2.1 ≠ (TX0 b).2.1 := by decide +kernel
theorem tyX0_ok : ∀ k, k < 2 → parseFieldDescriptor (TX0 k).2.2.1 = some (tyX0 k) := by decide +kernel
abbrev cX0_init : ByteArray := prog_2_method_1_code
def yX0_init : MethodName := ⟨RX0, "<init>", "()V"⟩
abbrev cX0_burn : ByteArray := prog_2_method_2_code
def yX0_burn : MethodName := ⟨RX0, "burn", "(LReelChange$House;LReelChange$Night;I)V"⟩
abbrev cX0_firstDying : ByteArray := prog_2_method_3_code
def yX0_firstDying : MethodName := ⟨RX0, "firstDying", "()I"⟩
abbrev cX0_fewestTrims : ByteArray := prog_2_method_4_code
def yX0_fewestTrims : MethodName := ⟨RX0, "fewestTrims", "(LReelChange$House;LReelChange$Night;)I"⟩
def RX1 : String := "ReelChange$Exchanger"
def TX1 : u_T := fun k => match k with
  | 0 => ("ReelChange$Exchanger", "inOrder", "LReelChange$Table;", true)
  | 1 => ("ReelChange$Exchanger", "parts", "LReelChange$Table;", true)
  | _ => ("ReelChange$Exchanger", "surplus", "[J", true)
def tyX1 : Nat → FieldType := fun k => match k with
  | 0 => .object "ReelChange$Table"
  | 1 => .object "ReelChange$Table"
  | _ => .array .long
abbrev wsX10 : List Cond := u_ws RX1 TX1 3
theorem nmX1 : ∀ a, a < 3 → ∀ b, b < 3 → a ≠ b → (TX1 a).2.1 ≠ (TX1 b).2.1 := by decide +kernel
theorem tyX1_ok : ∀ k, k < 3 → parseFieldDescriptor (TX1 k).2.2.1 = some (tyX1 k) := by decide +kernel
abbrev cX1_init : ByteArray := prog_3_method_1_code
def yX1_init : MethodName := ⟨RX1, "<init>", "()V"⟩
abbrev cX1_wrongPlaces : ByteArray := prog_3_method_2_code
def yX1_wrongPlaces : MethodName := ⟨RX1, "wrongPlaces", "(LReelChange$State;)I"⟩
abbrev cX1_fewest : ByteArray := prog_3_method_3_code
def yX1_fewest : MethodName := ⟨RX1, "fewest", "(LReelChange$State;)I"⟩
abbrev cX1_sort : ByteArray := prog_3_method_4_code
def yX1_sort : MethodName := ⟨RX1, "sort", "(LReelChange$State;)V"⟩
abbrev cX1_weigh : ByteArray := prog_3_method_5_code
def yX1_weigh : MethodName := ⟨RX1, "weigh", "(LReelChange$State;)V"⟩
abbrev cX1_unit : ByteArray := prog_3_method_6_code
def yX1_unit : MethodName := ⟨RX1, "unit", "(I)J"⟩
def RX2 : String := "ReelChange$Fraction"
def TX2 : u_T := fun k => match k with
  | 0 => ("ReelChange$Fraction", "upper", "J", false)
  | _ => ("ReelChange$Fraction", "lower", "J", false)
def tyX2 : Nat → FieldType := fun k => match k with
  | 0 => .long
  | _ => .long
abbrev wsX20 : List Cond := u_ws RX2 TX2 2
theorem nmX2 : ∀ a, a < 2 → ∀ b, b < 2 → a ≠ b → (TX2 a).2.1 ≠ (TX2 b).2.1 := by decide +kernel
theorem tyX2_ok : ∀ k, k < 2 → parseFieldDescriptor (TX2 k).2.2.1 = some (tyX2 k) := by decide +kernel
abbrev cX2_init : ByteArray := prog_4_method_1_code
def yX2_init : MethodName := ⟨RX2, "<init>", "()V"⟩
abbrev cX2_set : ByteArray := prog_4_method_2_code
def yX2_set : MethodName := ⟨RX2, "set", "(JJ)V"⟩
abbrev cX2_setPower : ByteArray := prog_4_method_3_code
def yX2_setPower : MethodName := ⟨RX2, "setPower", "(III)V"⟩
abbrev cX2_reduce : ByteArray := prog_4_method_4_code
def yX2_reduce : MethodName := ⟨RX2, "reduce", "()V"⟩
def RX3 : String := "ReelChange$House"
def TX3 : u_T := fun k => match k with
  | 0 => ("ReelChange$House", "atFirst", "LReelChange$State;", true)
  | 1 => ("ReelChange$House", "numbers", "LReelChange$Table;", true)
  | 2 => ("ReelChange$House", "towns", "LReelChange$Table;", true)
  | 3 => ("ReelChange$House", "joins", "LReelChange$Table;", true)
  | 4 => ("ReelChange$House", "men", "LReelChange$Table;", true)
  | 5 => ("ReelChange$House", "boys", "LReelChange$Table;", true)
  | 6 => ("ReelChange$House", "signs", "LReelChange$Table;", true)
  | _ => ("ReelChange$House", "scratches", "LReelChange$Table;", true)
def tyX3 : Nat → FieldType := fun k => match k with
  | 0 => .object "ReelChange$State"
  | 1 => .object "ReelChange$Table"
  | 2 => .object "ReelChange$Table"
  | 3 => .object "ReelChange$Table"
  | 4 => .object "ReelChange$Table"
  | 5 => .object "ReelChange$Table"
  | 6 => .object "ReelChange$Table"
  | _ => .object "ReelChange$Table"
abbrev wsX30 : List Cond := u_ws RX3 TX3 8
theorem nmX3 : ∀ a, a < 8 → ∀ b, b < 8 → a ≠ b → (TX3 a).2.1 ≠ (TX3 b).2.1 := by decide +kernel
theorem tyX3_ok : ∀ k, k < 8 → parseFieldDescriptor (TX3 k).2.2.1 = some (tyX3 k) := by decide +kernel
abbrev cX3_init : ByteArray := prog_5_method_1_code
def yX3_init : MethodName := ⟨RX3, "<init>", "()V"⟩
abbrev cX3_number : ByteArray := prog_5_method_2_code
def yX3_number : MethodName := ⟨RX3, "number", "(I)I"⟩
abbrev cX3_clear : ByteArray := prog_5_method_3_code
def yX3_clear : MethodName := ⟨RX3, "clear", "()V"⟩
abbrev cX3_copyFrom : ByteArray := prog_5_method_4_code
def yX3_copyFrom : MethodName := ⟨RX3, "copyFrom", "(LReelChange$House;)V"⟩
def RX4 : String := "ReelChange$Kept"
def TX4 : u_T := fun k => match k with
  | 0 => ("ReelChange$Kept", "ahead", "[LReelChange$State;", true)
  | 1 => ("ReelChange$Kept", "images", "[LReelChange$State;", true)
  | 2 => ("ReelChange$Kept", "acts", "I", false)
  | 3 => ("ReelChange$Kept", "next", "I", false)
  | _ => ("ReelChange$Kept", "imaged", "I", false)
def tyX4 : Nat → FieldType := fun k => match k with
  | 0 => .array (.object "ReelChange$State")
  | 1 => .array (.object "ReelChange$State")
  | 2 => .int
  | 3 => .int
  | _ => .int
abbrev wsX40 : List Cond := u_ws RX4 TX4 5
theorem nmX4 : ∀ a, a < 5 → ∀ b, b < 5 → a ≠ b → (TX4 a).2.1 ≠ (TX4 b).2.1 := by decide +kernel
theorem tyX4_ok : ∀ k, k < 5 → parseFieldDescriptor (TX4 k).2.2.1 = some (tyX4 k) := by decide +kernel
abbrev cX4_init : ByteArray := prog_6_method_1_code
def yX4_init : MethodName := ⟨RX4, "<init>", "()V"⟩
abbrev cX4_forget : ByteArray := prog_6_method_2_code
def yX4_forget : MethodName := ⟨RX4, "forget", "()V"⟩
abbrev cX4_keep : ByteArray := prog_6_method_3_code
def yX4_keep : MethodName := ⟨RX4, "keep", "(LReelChange$State;)V"⟩
abbrev cX4_takeBack : ByteArray := prog_6_method_4_code
def yX4_takeBack : MethodName := ⟨RX4, "takeBack", "(LReelChange$State;)Z"⟩
abbrev cX4_takeImage : ByteArray := prog_6_method_5_code
def yX4_takeImage : MethodName := ⟨RX4, "takeImage", "(LReelChange$State;)I"⟩
abbrev cX4_goBack : ByteArray := prog_6_method_6_code
def yX4_goBack : MethodName := ⟨RX4, "goBack", "(ILReelChange$State;)Z"⟩
abbrev cX4_slot : ByteArray := prog_6_method_7_code
def yX4_slot : MethodName := ⟨RX4, "slot", "([LReelChange$State;I)LReelChange$State;"⟩
def RX5 : String := "ReelChange$Night"
def TX5 : u_T := fun k => match k with
  | 0 => ("ReelChange$Night", "rows", "LReelChange$Table;", true)
  | 1 => ("ReelChange$Night", "snapped", "I", false)
  | 2 => ("ReelChange$Night", "mostSlip", "I", false)
  | 3 => ("ReelChange$Night", "slip", "I", false)
  | 4 => ("ReelChange$Night", "isDrawn", "Z", false)
  | 5 => ("ReelChange$Night", "seed", "I", false)
  | 6 => ("ReelChange$Night", "tick", "I", false)
  | 7 => ("ReelChange$Night", "motorTick", "I", false)
  | _ => ("ReelChange$Night", "ahead", "I", false)
def tyX5 : Nat → FieldType := fun k => match k with
  | 0 => .object "ReelChange$Table"
  | 1 => .int
  | 2 => .int
  | 3 => .int
  | 4 => .boolean
  | 5 => .int
  | 6 => .int
  | 7 => .int
  | _ => .int
abbrev wsX50 : List Cond := u_ws RX5 TX5 9
theorem nmX5 : ∀ a, a < 9 → ∀ b, b < 9 → a ≠ b → (TX5 a).2.1 ≠ (TX5 b).2.1 := by decide +kernel
theorem tyX5_ok : ∀ k, k < 9 → parseFieldDescriptor (TX5 k).2.2.1 = some (tyX5 k) := by decide +kernel
abbrev cX5_init : ByteArray := prog_7_method_1_code
def yX5_init : MethodName := ⟨RX5, "<init>", "()V"⟩
abbrev cX5_meet : ByteArray := prog_7_method_2_code
def yX5_meet : MethodName := ⟨RX5, "meet", "(LReelChange$House;LReelChange$State;I)V"⟩
abbrev cX5_slipBy : ByteArray := prog_7_method_3_code
def yX5_slipBy : MethodName := ⟨RX5, "slipBy", "(I)V"⟩
abbrev cX5_drawBy : ByteArray := prog_7_method_4_code
def yX5_drawBy : MethodName := ⟨RX5, "drawBy", "(I)V"⟩
abbrev cX5_run : ByteArray := prog_7_method_5_code
def yX5_run : MethodName := ⟨RX5, "run", "(LReelChange$House;LReelChange$State;)V"⟩
abbrev cX5_goBy : ByteArray := prog_7_method_6_code
def yX5_goBy : MethodName := ⟨RX5, "goBy", "(II)V"⟩
abbrev cX5_showReel : ByteArray := prog_7_method_7_code
def yX5_showReel : MethodName := ⟨RX5, "showReel", "(LReelChange$House;LReelChange$State;II)V"⟩
abbrev cX5_slipNow : ByteArray := prog_7_method_8_code
def yX5_slipNow : MethodName := ⟨RX5, "slipNow", "()I"⟩
abbrev cX5_snapWeakPlaces : ByteArray := prog_7_method_9_code
def yX5_snapWeakPlaces : MethodName := ⟨RX5, "snapWeakPlaces", "(LReelChange$House;LReelChange$State;I)V"⟩
abbrev cX5_draw : ByteArray := prog_7_method_10_code
def yX5_draw : MethodName := ⟨RX5, "draw", "()I"⟩
abbrev cX5_sum : ByteArray := prog_7_method_11_code
def yX5_sum : MethodName := ⟨RX5, "sum", "(I)I"⟩
abbrev cX5_waste : ByteArray := prog_7_method_12_code
def yX5_waste : MethodName := ⟨RX5, "waste", "()I"⟩
abbrev cX5_endTick : ByteArray := prog_7_method_13_code
def yX5_endTick : MethodName := ⟨RX5, "endTick", "()I"⟩
abbrev cX5_worstChange : ByteArray := prog_7_method_14_code
def yX5_worstChange : MethodName := ⟨RX5, "worstChange", "()I"⟩
abbrev cX5_exactThread : ByteArray := prog_7_method_15_code
def yX5_exactThread : MethodName := ⟨RX5, "exactThread", "(LReelChange$House;I)I"⟩
abbrev cX5_signsSo : ByteArray := prog_7_method_16_code
def yX5_signsSo : MethodName := ⟨RX5, "signsSo", "(LReelChange$House;)I"⟩
abbrev cX5_needed : ByteArray := prog_7_method_17_code
def yX5_needed : MethodName := ⟨RX5, "needed", "(I)I"⟩
abbrev cX5_idle : ByteArray := prog_7_method_18_code
def yX5_idle : MethodName := ⟨RX5, "idle", "(I)I"⟩
def RX6 : String := "ReelChange$Riders"
def TX6 : u_T := fun k => match k with
  | 0 => ("ReelChange$Riders", "backAt", "LReelChange$Table;", true)
  | 1 => ("ReelChange$Riders", "apartNeeded", "I", false)
  | _ => ("ReelChange$Riders", "waited", "I", false)
def tyX6 : Nat → FieldType := fun k => match k with
  | 0 => .object "ReelChange$Table"
  | 1 => .int
  | _ => .int
abbrev wsX60 : List Cond := u_ws RX6 TX6 3
theorem nmX6 : ∀ a, a < 3 → ∀ b, b < 3 → a ≠ b → (TX6 a).2.1 ≠ (TX6 b).2.1 := by decide +kernel
theorem tyX6_ok : ∀ k, k < 3 → parseFieldDescriptor (TX6 k).2.2.1 = some (tyX6 k) := by decide +kernel
abbrev cX6_init : ByteArray := prog_8_method_1_code
def yX6_init : MethodName := ⟨RX6, "<init>", "()V"⟩
abbrev cX6_carry : ByteArray := prog_8_method_2_code
def yX6_carry : MethodName := ⟨RX6, "carry", "(LReelChange$Night;III)V"⟩
abbrev cX6_soonestBack : ByteArray := prog_8_method_3_code
def yX6_soonestBack : MethodName := ⟨RX6, "soonestBack", "(I)I"⟩
def RX7 : String := "ReelChange$State"
def TX7 : u_T := fun k => match k with
  | 0 => ("ReelChange$State", "reels", "LReelChange$Table;", true)
  | 1 => ("ReelChange$State", "marks", "LReelChange$Table;", true)
  | 2 => ("ReelChange$State", "weaks", "LReelChange$Table;", true)
  | 3 => ("ReelChange$State", "places", "LReelChange$Table;", true)
  | 4 => ("ReelChange$State", "mended", "I", false)
  | _ => ("ReelChange$State", "trims", "I", false)
def tyX7 : Nat → FieldType := fun k => match k with
  | 0 => .object "ReelChange$Table"
  | 1 => .object "ReelChange$Table"
  | 2 => .object "ReelChange$Table"
  | 3 => .object "ReelChange$Table"
  | 4 => .int
  | _ => .int
abbrev wsX70 : List Cond := u_ws RX7 TX7 6
theorem nmX7 : ∀ a, a < 6 → ∀ b, b < 6 → a ≠ b → (TX7 a).2.1 ≠ (TX7 b).2.1 := by decide +kernel
theorem tyX7_ok : ∀ k, k < 6 → parseFieldDescriptor (TX7 k).2.2.1 = some (tyX7 k) := by decide +kernel
abbrev cX7_init : ByteArray := prog_9_method_1_code
def yX7_init : MethodName := ⟨RX7, "<init>", "()V"⟩
abbrev cX7_clear : ByteArray := prog_9_method_2_code
def yX7_clear : MethodName := ⟨RX7, "clear", "()V"⟩
abbrev cX7_copyFrom : ByteArray := prog_9_method_3_code
def yX7_copyFrom : MethodName := ⟨RX7, "copyFrom", "(LReelChange$State;)V"⟩
abbrev cX7_reelAt : ByteArray := prog_9_method_4_code
def yX7_reelAt : MethodName := ⟨RX7, "reelAt", "(I)I"⟩
abbrev cX7_isWeak : ByteArray := prog_9_method_5_code
def yX7_isWeak : MethodName := ⟨RX7, "isWeak", "(I)Z"⟩
abbrev cX7_mendedOn : ByteArray := prog_9_method_6_code
def yX7_mendedOn : MethodName := ⟨RX7, "mendedOn", "(I)I"⟩
abbrev cX7_markBy : ByteArray := prog_9_method_7_code
def yX7_markBy : MethodName := ⟨RX7, "markBy", "(II)I"⟩
abbrev cX7_believedBy : ByteArray := prog_9_method_8_code
def yX7_believedBy : MethodName := ⟨RX7, "believedBy", "(LReelChange$Table;II)I"⟩
abbrev cX7_isMeantPerhaps : ByteArray := prog_9_method_9_code
def yX7_isMeantPerhaps : MethodName := ⟨RX7, "isMeantPerhaps", "(II)Z"⟩
abbrev cX7_isMarked : ByteArray := prog_9_method_10_code
def yX7_isMarked : MethodName := ⟨RX7, "isMarked", "(III)Z"⟩
abbrev cX7_weight : ByteArray := prog_9_method_11_code
def yX7_weight : MethodName := ⟨RX7, "weight", "(LReelChange$Table;II)I"⟩
abbrev cX7_allWeights : ByteArray := prog_9_method_12_code
def yX7_allWeights : MethodName := ⟨RX7, "allWeights", "(LReelChange$Table;I)I"⟩
abbrev cX7_likeliestFrame : ByteArray := prog_9_method_13_code
def yX7_likeliestFrame : MethodName := ⟨RX7, "likeliestFrame", "(LReelChange$Table;I)I"⟩
abbrev cX7_cutOut : ByteArray := prog_9_method_14_code
def yX7_cutOut : MethodName := ⟨RX7, "cutOut", "(I)V"⟩
abbrev cX7_pull : ByteArray := prog_9_method_15_code
def yX7_pull : MethodName := ⟨RX7, "pull", "(LReelChange$Table;III)V"⟩
abbrev cX7_sooner : ByteArray := prog_9_method_16_code
def yX7_sooner : MethodName := ⟨RX7, "sooner", "(III)I"⟩
def RX8 : String := "ReelChange$Table"
def TX8 : u_T := fun k => match k with
  | 0 => ("ReelChange$Table", "room", "I", true)
  | 1 => ("ReelChange$Table", "width", "I", true)
  | 2 => ("ReelChange$Table", "cells", "[I", true)
  | _ => ("ReelChange$Table", "count", "I", false)
def tyX8 : Nat → FieldType := fun k => match k with
  | 0 => .int
  | 1 => .int
  | 2 => .array .int
  | _ => .int
abbrev wsX80 : List Cond := u_ws RX8 TX8 4
theorem nmX8 : ∀ a, a < 4 → ∀ b, b < 4 → a ≠ b → (TX8 a).2.1 ≠ (TX8 b).2.1 := by decide +kernel
theorem tyX8_ok : ∀ k, k < 4 → parseFieldDescriptor (TX8 k).2.2.1 = some (tyX8 k) := by decide +kernel
abbrev cX8_init : ByteArray := prog_10_method_1_code
def yX8_init : MethodName := ⟨RX8, "<init>", "(II)V"⟩
abbrev cX8_has : ByteArray := prog_10_method_2_code
def yX8_has : MethodName := ⟨RX8, "has", "(I)Z"⟩
abbrev cX8_isFull : ByteArray := prog_10_method_3_code
def yX8_isFull : MethodName := ⟨RX8, "isFull", "()Z"⟩
abbrev cX8_clear : ByteArray := prog_10_method_4_code
def yX8_clear : MethodName := ⟨RX8, "clear", "()V"⟩
abbrev cX8_at : ByteArray := prog_10_method_5_code
def yX8_at : MethodName := ⟨RX8, "at", "(II)I"⟩
abbrev cX8_put : ByteArray := prog_10_method_6_code
def yX8_put : MethodName := ⟨RX8, "put", "(III)V"⟩
abbrev cX8_add : ByteArray := prog_10_method_7_code
def yX8_add : MethodName := ⟨RX8, "add", "(III)V"⟩
abbrev cX8_howMany : ByteArray := prog_10_method_8_code
def yX8_howMany : MethodName := ⟨RX8, "howMany", "(II)I"⟩
abbrev cX8_copyFrom : ByteArray := prog_10_method_9_code
def yX8_copyFrom : MethodName := ⟨RX8, "copyFrom", "(LReelChange$Table;)V"⟩
def RX9 : String := "ReelChange$Text"
def TX9 : u_T := fun k => match k with
  | 0 => ("ReelChange$Text", "taped", "I", false)
  | 1 => ("ReelChange$Text", "house", "LReelChange$House;", true)
  | 2 => ("ReelChange$Text", "faultNumber", "I", false)
  | 3 => ("ReelChange$Text", "faultPlace", "I", false)
  | 4 => ("ReelChange$Text", "tape", "[B", true)
  | 5 => ("ReelChange$Text", "end", "I", false)
  | 6 => ("ReelChange$Text", "names", "[J", true)
  | 7 => ("ReelChange$Text", "named", "LReelChange$Table;", true)
  | 8 => ("ReelChange$Text", "kind", "I", false)
  | 9 => ("ReelChange$Text", "start", "I", false)
  | 10 => ("ReelChange$Text", "position", "I", false)
  | 11 => ("ReelChange$Text", "value", "I", false)
  | 12 => ("ReelChange$Text", "letters", "J", false)
  | 13 => ("ReelChange$Text", "taken", "I", false)
  | _ => ("ReelChange$Text", "takenAt", "I", false)
def tyX9 : Nat → FieldType := fun k => match k with
  | 0 => .int
  | 1 => .object "ReelChange$House"
  | 2 => .int
  | 3 => .int
  | 4 => .array .byte
  | 5 => .int
  | 6 => .array .long
  | 7 => .object "ReelChange$Table"
  | 8 => .int
  | 9 => .int
  | 10 => .int
  | 11 => .int
  | 12 => .long
  | 13 => .int
  | _ => .int
abbrev wsX90 : List Cond := u_ws RX9 TX9 15
theorem nmX9 : ∀ a, a < 15 → ∀ b, b < 15 → a ≠ b → (TX9 a).2.1 ≠ (TX9 b).2.1 := by decide +kernel
theorem tyX9_ok : ∀ k, k < 15 → parseFieldDescriptor (TX9 k).2.2.1 = some (tyX9 k) := by decide +kernel
abbrev cX9_init : ByteArray := prog_11_method_1_code
def yX9_init : MethodName := ⟨RX9, "<init>", "()V"⟩
abbrev cX9_write : ByteArray := prog_11_method_2_code
def yX9_write : MethodName := ⟨RX9, "write", "(I)V"⟩
abbrev cX9_read : ByteArray := prog_11_method_3_code
def yX9_read : MethodName := ⟨RX9, "read", "(I)V"⟩
abbrev cX9_isFollowed : ByteArray := prog_11_method_4_code
def yX9_isFollowed : MethodName := ⟨RX9, "isFollowed", "()Z"⟩
abbrev cX9_refuseAt : ByteArray := prog_11_method_5_code
def yX9_refuseAt : MethodName := ⟨RX9, "refuseAt", "(II)Z"⟩
abbrev cX9_isLine : ByteArray := prog_11_method_6_code
def yX9_isLine : MethodName := ⟨RX9, "isLine", "()Z"⟩
abbrev cX9_isHouseLine : ByteArray := prog_11_method_7_code
def yX9_isHouseLine : MethodName := ⟨RX9, "isHouseLine", "()Z"⟩
abbrev cX9_isNumber : ByteArray := prog_11_method_8_code
def yX9_isNumber : MethodName := ⟨RX9, "isNumber", "(Ljava/lang/String;III)Z"⟩
abbrev cX9_isReelLine : ByteArray := prog_11_method_9_code
def yX9_isReelLine : MethodName := ⟨RX9, "isReelLine", "()Z"⟩
abbrev cX9_isTownLine : ByteArray := prog_11_method_10_code
def yX9_isTownLine : MethodName := ⟨RX9, "isTownLine", "()Z"⟩
abbrev cX9_isMarkLine : ByteArray := prog_11_method_11_code
def yX9_isMarkLine : MethodName := ⟨RX9, "isMarkLine", "()Z"⟩
abbrev cX9_isJoinLine : ByteArray := prog_11_method_12_code
def yX9_isJoinLine : MethodName := ⟨RX9, "isJoinLine", "()Z"⟩
abbrev cX9_isWeakLine : ByteArray := prog_11_method_13_code
def yX9_isWeakLine : MethodName := ⟨RX9, "isWeakLine", "()Z"⟩
abbrev cX9_isManLine : ByteArray := prog_11_method_14_code
def yX9_isManLine : MethodName := ⟨RX9, "isManLine", "()Z"⟩
abbrev cX9_kindOfMan : ByteArray := prog_11_method_15_code
def yX9_kindOfMan : MethodName := ⟨RX9, "kindOfMan", "()I"⟩
abbrev cX9_isShowsLine : ByteArray := prog_11_method_16_code
def yX9_isShowsLine : MethodName := ⟨RX9, "isShowsLine", "()Z"⟩
abbrev cX9_isBoysLine : ByteArray := prog_11_method_17_code
def yX9_isBoysLine : MethodName := ⟨RX9, "isBoysLine", "()Z"⟩
abbrev cX9_isSeenLine : ByteArray := prog_11_method_18_code
def yX9_isSeenLine : MethodName := ⟨RX9, "isSeenLine", "()Z"⟩
abbrev cX9_isScratchLine : ByteArray := prog_11_method_19_code
def yX9_isScratchLine : MethodName := ⟨RX9, "isScratchLine", "()Z"⟩
abbrev cX9_hasRoom : ByteArray := prog_11_method_20_code
def yX9_hasRoom : MethodName := ⟨RX9, "hasRoom", "(LReelChange$Table;)Z"⟩
abbrev cX9_isLabel : ByteArray := prog_11_method_21_code
def yX9_isLabel : MethodName := ⟨RX9, "isLabel", "(Ljava/lang/String;)Z"⟩
abbrev cX9_lastFrame : ByteArray := prog_11_method_22_code
def yX9_lastFrame : MethodName := ⟨RX9, "lastFrame", "(I)I"⟩
abbrev cX9_isWhole : ByteArray := prog_11_method_23_code
def yX9_isWhole : MethodName := ⟨RX9, "isWhole", "(II)Z"⟩
abbrev cX9_isNewName : ByteArray := prog_11_method_24_code
def yX9_isNewName : MethodName := ⟨RX9, "isNewName", "(II)Z"⟩
abbrev cX9_isOldName : ByteArray := prog_11_method_25_code
def yX9_isOldName : MethodName := ⟨RX9, "isOldName", "(I)Z"⟩
abbrev cX9_findName : ByteArray := prog_11_method_26_code
def yX9_findName : MethodName := ⟨RX9, "findName", "()I"⟩
abbrev cX9_isReserved : ByteArray := prog_11_method_27_code
def yX9_isReserved : MethodName := ⟨RX9, "isReserved", "()Z"⟩
abbrev cX9_is : ByteArray := prog_11_method_28_code
def yX9_is : MethodName := ⟨RX9, "is", "(Ljava/lang/String;)Z"⟩
abbrev cX9_next : ByteArray := prog_11_method_29_code
def yX9_next : MethodName := ⟨RX9, "next", "()V"⟩
abbrev cX9_kindAt : ByteArray := prog_11_method_30_code
def yX9_kindAt : MethodName := ⟨RX9, "kindAt", "(I)I"⟩
def RX10 : String := "ReelChange"
def TX10 : u_T := fun k => match k with
  | 0 => ("ReelChange", "text", "LReelChange$Text;", true)
  | 1 => ("ReelChange", "told", "LReelChange$House;", true)
  | 2 => ("ReelChange", "now", "LReelChange$State;", true)
  | 3 => ("ReelChange", "kept", "LReelChange$Kept;", true)
  | 4 => ("ReelChange", "night", "LReelChange$Night;", true)
  | 5 => ("ReelChange", "arcs", "LReelChange$Arcs;", true)
  | 6 => ("ReelChange", "riders", "LReelChange$Riders;", true)
  | 7 => ("ReelChange", "exchanger", "LReelChange$Exchanger;", true)
  | 8 => ("ReelChange", "fraction", "LReelChange$Fraction;", true)
  | _ => ("ReelChange", "latestTrouble", "I", false)
def tyX10 : Nat → FieldType := fun k => match k with
  | 0 => .object "ReelChange$Text"
  | 1 => .object "ReelChange$House"
  | 2 => .object "ReelChange$State"
  | 3 => .object "ReelChange$Kept"
  | 4 => .object "ReelChange$Night"
  | 5 => .object "ReelChange$Arcs"
  | 6 => .object "ReelChange$Riders"
  | 7 => .object "ReelChange$Exchanger"
  | 8 => .object "ReelChange$Fraction"
  | _ => .int
abbrev wsX100 : List Cond := u_ws RX10 TX10 10
theorem nmX10 : ∀ a, a < 10 → ∀ b, b < 10 → a ≠ b → (TX10 a).2.1 ≠ (TX10 b).2.1 := by decide +kernel
theorem tyX10_ok : ∀ k, k < 10 → parseFieldDescriptor (TX10 k).2.2.1 = some (tyX10 k) := by decide +kernel
abbrev cX10_init : ByteArray := prog_1_method_1_code
def yX10_init : MethodName := ⟨RX10, "<init>", "()V"⟩
abbrev cX10_feed : ByteArray := prog_1_method_2_code
def yX10_feed : MethodName := ⟨RX10, "feed", "(IIIII)I"⟩
abbrev cX10_house : ByteArray := prog_1_method_3_code
def yX10_house : MethodName := ⟨RX10, "house", "(I)I"⟩
abbrev cX10_fault : ByteArray := prog_1_method_4_code
def yX10_fault : MethodName := ⟨RX10, "fault", "()I"⟩
abbrev cX10_where : ByteArray := prog_1_method_5_code
def yX10_where : MethodName := ⟨RX10, "where", "()I"⟩
abbrev cX10_reel : ByteArray := prog_1_method_6_code
def yX10_reel : MethodName := ⟨RX10, "reel", "(II)I"⟩
abbrev cX10_mark : ByteArray := prog_1_method_7_code
def yX10_mark : MethodName := ⟨RX10, "mark", "(II)I"⟩
abbrev cX10_shows : ByteArray := prog_1_method_8_code
def yX10_shows : MethodName := ⟨RX10, "shows", "(I)I"⟩
abbrev cX10_thread : ByteArray := prog_1_method_9_code
def yX10_thread : MethodName := ⟨RX10, "thread", "(I)I"⟩
abbrev cX10_believes : ByteArray := prog_1_method_10_code
def yX10_believes : MethodName := ⟨RX10, "believes", "(II)I"⟩
abbrev cX10_starts : ByteArray := prog_1_method_11_code
def yX10_starts : MethodName := ⟨RX10, "starts", "(II)I"⟩
abbrev cX10_changes : ByteArray := prog_1_method_12_code
def yX10_changes : MethodName := ⟨RX10, "changes", "(II)I"⟩
abbrev cX10_lost : ByteArray := prog_1_method_13_code
def yX10_lost : MethodName := ⟨RX10, "lost", "(II)I"⟩
abbrev cX10_black : ByteArray := prog_1_method_14_code
def yX10_black : MethodName := ⟨RX10, "black", "(II)I"⟩
abbrev cX10_tail : ByteArray := prog_1_method_15_code
def yX10_tail : MethodName := ⟨RX10, "tail", "(II)I"⟩
abbrev cX10_begins : ByteArray := prog_1_method_16_code
def yX10_begins : MethodName := ⟨RX10, "begins", "(II)I"⟩
abbrev cX10_length : ByteArray := prog_1_method_17_code
def yX10_length : MethodName := ⟨RX10, "length", "(I)I"⟩
abbrev cX10_all : ByteArray := prog_1_method_18_code
def yX10_all : MethodName := ⟨RX10, "all", "(II)I"⟩
abbrev cX10_worst : ByteArray := prog_1_method_19_code
def yX10_worst : MethodName := ⟨RX10, "worst", "(I)I"⟩
abbrev cX10_exact : ByteArray := prog_1_method_20_code
def yX10_exact : MethodName := ⟨RX10, "exact", "(II)I"⟩
abbrev cX10_signs : ByteArray := prog_1_method_21_code
def yX10_signs : MethodName := ⟨RX10, "signs", "(I)I"⟩
abbrev cX10_fits : ByteArray := prog_1_method_22_code
def yX10_fits : MethodName := ⟨RX10, "fits", "()I"⟩
abbrev cX10_bestSlip : ByteArray := prog_1_method_23_code
def yX10_bestSlip : MethodName := ⟨RX10, "bestSlip", "(I)I"⟩
abbrev cX10_bySlip : ByteArray := prog_1_method_24_code
def yX10_bySlip : MethodName := ⟨RX10, "bySlip", "(I)I"⟩
abbrev cX10_needs : ByteArray := prog_1_method_25_code
def yX10_needs : MethodName := ⟨RX10, "needs", "(II)I"⟩
abbrev cX10_dies : ByteArray := prog_1_method_26_code
def yX10_dies : MethodName := ⟨RX10, "dies", "(II)I"⟩
abbrev cX10_firstDies : ByteArray := prog_1_method_27_code
def yX10_firstDies : MethodName := ⟨RX10, "firstDies", "(I)I"⟩
abbrev cX10_free : ByteArray := prog_1_method_28_code
def yX10_free : MethodName := ⟨RX10, "free", "(II)I"⟩
abbrev cX10_arc : ByteArray := prog_1_method_29_code
def yX10_arc : MethodName := ⟨RX10, "arc", "(II)I"⟩
abbrev cX10_never : ByteArray := prog_1_method_30_code
def yX10_never : MethodName := ⟨RX10, "never", "(I)I"⟩
abbrev cX10_truly : ByteArray := prog_1_method_31_code
def yX10_truly : MethodName := ⟨RX10, "truly", "(IIZ)J"⟩
abbrev cX10_likeliest : ByteArray := prog_1_method_32_code
def yX10_likeliest : MethodName := ⟨RX10, "likeliest", "(I)I"⟩
abbrev cX10_who : ByteArray := prog_1_method_33_code
def yX10_who : MethodName := ⟨RX10, "who", "(I)I"⟩
abbrev cX10_far : ByteArray := prog_1_method_34_code
def yX10_far : MethodName := ⟨RX10, "far", "(I)I"⟩
abbrev cX10_missing : ByteArray := prog_1_method_35_code
def yX10_missing : MethodName := ⟨RX10, "missing", "(IZ)I"⟩
abbrev cX10_words : ByteArray := prog_1_method_36_code
def yX10_words : MethodName := ⟨RX10, "words", "(I)I"⟩
abbrev cX10_holds : ByteArray := prog_1_method_37_code
def yX10_holds : MethodName := ⟨RX10, "holds", "(IIZ)J"⟩
abbrev cX10_pays : ByteArray := prog_1_method_38_code
def yX10_pays : MethodName := ⟨RX10, "pays", "(II)I"⟩
abbrev cX10_wears : ByteArray := prog_1_method_39_code
def yX10_wears : MethodName := ⟨RX10, "wears", "(IIZ)J"⟩
abbrev cX10_apart : ByteArray := prog_1_method_40_code
def yX10_apart : MethodName := ⟨RX10, "apart", "(II)I"⟩
abbrev cX10_waits : ByteArray := prog_1_method_41_code
def yX10_waits : MethodName := ⟨RX10, "waits", "(III)I"⟩
abbrev cX10_boys : ByteArray := prog_1_method_42_code
def yX10_boys : MethodName := ⟨RX10, "boys", "(I)I"⟩
abbrev cX10_well : ByteArray := prog_1_method_43_code
def yX10_well : MethodName := ⟨RX10, "well", "(Z)J"⟩
abbrev cX10_wrong : ByteArray := prog_1_method_44_code
def yX10_wrong : MethodName := ⟨RX10, "wrong", "()I"⟩
abbrev cX10_exchanges : ByteArray := prog_1_method_45_code
def yX10_exchanges : MethodName := ⟨RX10, "exchanges", "()I"⟩
abbrev cX10_dark : ByteArray := prog_1_method_46_code
def yX10_dark : MethodName := ⟨RX10, "dark", "(II)I"⟩
abbrev cX10_bestMan : ByteArray := prog_1_method_47_code
def yX10_bestMan : MethodName := ⟨RX10, "bestMan", "(II)I"⟩
abbrev cX10_threads : ByteArray := prog_1_method_48_code
def yX10_threads : MethodName := ⟨RX10, "threads", "(II)Z"⟩
abbrev cX10_trim : ByteArray := prog_1_method_49_code
def yX10_trim : MethodName := ⟨RX10, "trim", "(IZ)Z"⟩
abbrev cX10_mend : ByteArray := prog_1_method_50_code
def yX10_mend : MethodName := ⟨RX10, "mend", "(I)I"⟩
abbrev cX10_undo : ByteArray := prog_1_method_51_code
def yX10_undo : MethodName := ⟨RX10, "undo", "()Z"⟩
abbrev cX10_image : ByteArray := prog_1_method_52_code
def yX10_image : MethodName := ⟨RX10, "image", "()I"⟩
abbrev cX10_back : ByteArray := prog_1_method_53_code
def yX10_back : MethodName := ⟨RX10, "back", "(I)Z"⟩
abbrev cX10_led : ByteArray := prog_1_method_54_code
def yX10_led : MethodName := ⟨RX10, "led", "(I)I"⟩
abbrev cX10_size : ByteArray := prog_1_method_55_code
def yX10_size : MethodName := ⟨RX10, "size", "(I)I"⟩
abbrev cX10_trouble : ByteArray := prog_1_method_56_code
def yX10_trouble : MethodName := ⟨RX10, "trouble", "()I"⟩
abbrev cX10_refuse : ByteArray := prog_1_method_57_code
def yX10_refuse : MethodName := ⟨RX10, "refuse", "(I)I"⟩
abbrev cX10_tell : ByteArray := prog_1_method_58_code
def yX10_tell : MethodName := ⟨RX10, "tell", "(I)I"⟩
abbrev cX10_refuseAct : ByteArray := prog_1_method_59_code
def yX10_refuseAct : MethodName := ⟨RX10, "refuseAct", "(I)Z"⟩
abbrev cX10_actDone : ByteArray := prog_1_method_60_code
def yX10_actDone : MethodName := ⟨RX10, "actDone", "()Z"⟩
abbrev cX10_tellPart : ByteArray := prog_1_method_61_code
def yX10_tellPart : MethodName := ⟨RX10, "tellPart", "(Z)J"⟩
abbrev cX10_isOpen : ByteArray := prog_1_method_62_code
def yX10_isOpen : MethodName := ⟨RX10, "isOpen", "()Z"⟩
abbrev cX10_ofPlace : ByteArray := prog_1_method_63_code
def yX10_ofPlace : MethodName := ⟨RX10, "ofPlace", "(II)I"⟩
abbrev cX10_runNight : ByteArray := prog_1_method_64_code
def yX10_runNight : MethodName := ⟨RX10, "runNight", "(I)Z"⟩
abbrev cX10_ofNight : ByteArray := prog_1_method_65_code
def yX10_ofNight : MethodName := ⟨RX10, "ofNight", "(III)I"⟩
abbrev cX10_leastSlip : ByteArray := prog_1_method_66_code
def yX10_leastSlip : MethodName := ⟨RX10, "leastSlip", "(I)I"⟩
abbrev cX10_wasteByDraws : ByteArray := prog_1_method_67_code
def yX10_wasteByDraws : MethodName := ⟨RX10, "wasteByDraws", "(III)I"⟩
abbrev cX10_nearestMark : ByteArray := prog_1_method_68_code
def yX10_nearestMark : MethodName := ⟨RX10, "nearestMark", "(I)I"⟩
abbrev cX10_farFrom : ByteArray := prog_1_method_69_code
def yX10_farFrom : MethodName := ⟨RX10, "farFrom", "(II)I"⟩
abbrev cX10_lackedBy : ByteArray := prog_1_method_70_code
def yX10_lackedBy : MethodName := ⟨RX10, "lackedBy", "(I)I"⟩
abbrev cX10_rideTrouble : ByteArray := prog_1_method_71_code
def yX10_rideTrouble : MethodName := ⟨RX10, "rideTrouble", "(III)I"⟩
abbrev cX10_boysMeant : ByteArray := prog_1_method_72_code
def yX10_boysMeant : MethodName := ⟨RX10, "boysMeant", "(I)I"⟩
abbrev cX10_apartBy : ByteArray := prog_1_method_73_code
def yX10_apartBy : MethodName := ⟨RX10, "apartBy", "(I)I"⟩
def RX11 : String := "ReelChangeModel"
def TX11 : u_T := fun k => match k with
  | 0 => ("ReelChangeModel", "thrown", "I", false)
  | 1 => ("ReelChangeModel", "tape", "[I", true)
  | 2 => ("ReelChangeModel", "taped", "I", false)
  | 3 => ("ReelChangeModel", "size", "I", false)
  | 4 => ("ReelChangeModel", "at", "I", false)
  | 5 => ("ReelChangeModel", "end", "I", false)
  | 6 => ("ReelChangeModel", "token", "I", false)
  | 7 => ("ReelChangeModel", "whole", "I", false)
  | 8 => ("ReelChangeModel", "nameSize", "I", false)
  | 9 => ("ReelChangeModel", "fault", "I", false)
  | 10 => ("ReelChangeModel", "place", "I", false)
  | 11 => ("ReelChangeModel", "trouble", "I", false)
  | 12 => ("ReelChangeModel", "letters", "[I", true)
  | 13 => ("ReelChangeModel", "failed", "Z", false)
  | 14 => ("ReelChangeModel", "hasHouse", "Z", false)
  | 15 => ("ReelChangeModel", "\x72", "[I", true)
  | 16 => ("ReelChangeModel", "fresh", "[I", true)
  | 17 => ("ReelChangeModel", "st", "[I", true)
  | 18 => ("ReelChangeModel", "undone", "[I", true)
  | 19 => ("ReelChangeModel", "kept", "[I", true)
  | 20 => ("ReelChangeModel", "undos", "I", false)
  | 21 => ("ReelChangeModel", "images", "I", false)
  | 22 => ("ReelChangeModel", "from", "[I", true)
  | 23 => ("ReelChangeModel", "begin", "[I", true)
  | 24 => ("ReelChangeModel", "motor", "[I", true)
  | 25 => ("ReelChangeModel", "change", "[I", true)
  | 26 => ("ReelChangeModel", "startFrame", "[I", true)
  | 27 => ("ReelChangeModel", "changeFrame", "[I", true)
  | 28 => ("ReelChangeModel", "lostAt", "[I", true)
  | 29 => ("ReelChangeModel", "blackAt", "[I", true)
  | 30 => ("ReelChangeModel", "slips", "[I", true)
  | 31 => ("ReelChangeModel", "leftArc", "[I", true)
  | 32 => ("ReelChangeModel", "died", "[I", true)
  | 33 => ("ReelChangeModel", "arcs", "[I", true)
  | 34 => ("ReelChangeModel", "bestSum", "I", false)
  | 35 => ("ReelChangeModel", "nearest", "I", false)
  | 36 => ("ReelChangeModel", "nearestTown", "I", false)
  | 37 => ("ReelChangeModel", "there", "[I", true)
  | 38 => ("ReelChangeModel", "backAt", "[I", true)
  | 39 => ("ReelChangeModel", "sorted", "[I", true)
  | 40 => ("ReelChangeModel", "parts", "[I", true)
  | 41 => ("ReelChangeModel", "seed1", "I", false)
  | _ => ("ReelChangeModel", "darkNow", "I", false)
def tyX11 : Nat → FieldType := fun k => match k with
  | 0 => .int
  | 1 => .array .int
  | 2 => .int
  | 3 => .int
  | 4 => .int
  | 5 => .int
  | 6 => .int
  | 7 => .int
  | 8 => .int
  | 9 => .int
  | 10 => .int
  | 11 => .int
  | 12 => .array .int
  | 13 => .boolean
  | 14 => .boolean
  | 15 => .array .int
  | 16 => .array .int
  | 17 => .array .int
  | 18 => .array .int
  | 19 => .array .int
  | 20 => .int
  | 21 => .int
  | 22 => .array .int
  | 23 => .array .int
  | 24 => .array .int
  | 25 => .array .int
  | 26 => .array .int
  | 27 => .array .int
  | 28 => .array .int
  | 29 => .array .int
  | 30 => .array .int
  | 31 => .array .int
  | 32 => .array .int
  | 33 => .array .int
  | 34 => .int
  | 35 => .int
  | 36 => .int
  | 37 => .array .int
  | 38 => .array .int
  | 39 => .array .int
  | 40 => .array .int
  | 41 => .int
  | _ => .int
abbrev wsX110 : List Cond := u_ws RX11 TX11 43
theorem nmX11 : ∀ a, a < 43 → ∀ b, b < 43 → a ≠ b → (TX11 a).2.1 ≠ (TX11 b).2.1 := by decide +kernel
theorem tyX11_ok : ∀ k, k < 43 → parseFieldDescriptor (TX11 k).2.2.1 = some (tyX11 k) := by decide +kernel
abbrev cX11_init : ByteArray := prog_13_method_1_code
def yX11_init : MethodName := ⟨RX11, "<init>", "()V"⟩
abbrev cX11_thrown : ByteArray := prog_13_method_2_code
def yX11_thrown : MethodName := ⟨RX11, "thrown", "()I"⟩
abbrev cX11_good : ByteArray := prog_13_method_3_code
def yX11_good : MethodName := ⟨RX11, "good", "()V"⟩
abbrev cX11_no : ByteArray := prog_13_method_4_code
def yX11_no : MethodName := ⟨RX11, "no", "(I)I"⟩
abbrev cX11_isNot : ByteArray := prog_13_method_5_code
def yX11_isNot : MethodName := ⟨RX11, "isNot", "(I)Z"⟩
abbrev cX11_in : ByteArray := prog_13_method_6_code
def yX11_in : MethodName := ⟨RX11, "in", "(III)Z"⟩
abbrev cX11_hasBit : ByteArray := prog_13_method_7_code
def yX11_hasBit : MethodName := ⟨RX11, "hasBit", "(II)Z"⟩
abbrev cX11_ones : ByteArray := prog_13_method_8_code
def yX11_ones : MethodName := ⟨RX11, "ones", "(I)I"⟩
abbrev cX11_most : ByteArray := prog_13_method_9_code
def yX11_most : MethodName := ⟨RX11, "most", "(II)I"⟩
abbrev cX11_least : ByteArray := prog_13_method_10_code
def yX11_least : MethodName := ⟨RX11, "least", "(II)I"⟩
abbrev cX11_copy : ByteArray := prog_13_method_11_code
def yX11_copy : MethodName := ⟨RX11, "copy", "([II[III)V"⟩
abbrev cX11_lowest : ByteArray := prog_13_method_12_code
def yX11_lowest : MethodName := ⟨RX11, "lowest", "(JJZ)J"⟩
abbrev cX11_feed : ByteArray := prog_13_method_13_code
def yX11_feed : MethodName := ⟨RX11, "feed", "(IIIII)I"⟩
abbrev cX11_look : ByteArray := prog_13_method_14_code
def yX11_look : MethodName := ⟨RX11, "look", "(I)I"⟩
abbrev cX11_isSmall : ByteArray := prog_13_method_15_code
def yX11_isSmall : MethodName := ⟨RX11, "isSmall", "(I)Z"⟩
abbrev cX11_isDigit : ByteArray := prog_13_method_16_code
def yX11_isDigit : MethodName := ⟨RX11, "isDigit", "(I)Z"⟩
abbrev cX11_next : ByteArray := prog_13_method_17_code
def yX11_next : MethodName := ⟨RX11, "next", "()V"⟩
abbrev cX11_bad : ByteArray := prog_13_method_18_code
def yX11_bad : MethodName := ⟨RX11, "bad", "(II)V"⟩
abbrev cX11_isWord : ByteArray := prog_13_method_19_code
def yX11_isWord : MethodName := ⟨RX11, "isWord", "(Ljava/lang/String;)Z"⟩
abbrev cX11_takesWord : ByteArray := prog_13_method_20_code
def yX11_takesWord : MethodName := ⟨RX11, "takesWord", "(Ljava/lang/String;)Z"⟩
abbrev cX11_must : ByteArray := prog_13_method_21_code
def yX11_must : MethodName := ⟨RX11, "must", "(Ljava/lang/String;)V"⟩
abbrev cX11_mustName : ByteArray := prog_13_method_22_code
def yX11_mustName : MethodName := ⟨RX11, "mustName", "()V"⟩
abbrev cX11_find : ByteArray := prog_13_method_23_code
def yX11_find : MethodName := ⟨RX11, "find", "()I"⟩
abbrev cX11_newName : ByteArray := prog_13_method_24_code
def yX11_newName : MethodName := ⟨RX11, "newName", "(I)V"⟩
abbrev cX11_named : ByteArray := prog_13_method_25_code
def yX11_named : MethodName := ⟨RX11, "named", "(II)I"⟩
abbrev cX11_reelPassed : ByteArray := prog_13_method_26_code
def yX11_reelPassed : MethodName := ⟨RX11, "reelPassed", "()I"⟩
abbrev cX11_numberHere : ByteArray := prog_13_method_27_code
def yX11_numberHere : MethodName := ⟨RX11, "numberHere", "(II)I"⟩
abbrev cX11_number : ByteArray := prog_13_method_28_code
def yX11_number : MethodName := ⟨RX11, "number", "(II)I"⟩
abbrev cX11_after : ByteArray := prog_13_method_29_code
def yX11_after : MethodName := ⟨RX11, "after", "(Ljava/lang/String;II)I"⟩
abbrev cX11_comma : ByteArray := prog_13_method_30_code
def yX11_comma : MethodName := ⟨RX11, "comma", "()Z"⟩
abbrev cX11_house : ByteArray := prog_13_method_31_code
def yX11_house : MethodName := ⟨RX11, "house", "(I)I"⟩
abbrev cX11_opens : ByteArray := prog_13_method_32_code
def yX11_opens : MethodName := ⟨RX11, "opens", "(Ljava/lang/String;Z)Z"⟩
abbrev cX11_opensOnce : ByteArray := prog_13_method_33_code
def yX11_opensOnce : MethodName := ⟨RX11, "opensOnce", "(Ljava/lang/String;Z)Z"⟩
abbrev cX11_readLine : ByteArray := prog_13_method_34_code
def yX11_readLine : MethodName := ⟨RX11, "readLine", "()V"⟩
abbrev cX11_houseLine : ByteArray := prog_13_method_35_code
def yX11_houseLine : MethodName := ⟨RX11, "houseLine", "()V"⟩
abbrev cX11_reelLine : ByteArray := prog_13_method_36_code
def yX11_reelLine : MethodName := ⟨RX11, "reelLine", "()V"⟩
abbrev cX11_townLine : ByteArray := prog_13_method_37_code
def yX11_townLine : MethodName := ⟨RX11, "townLine", "()V"⟩
abbrev cX11_frameOf : ByteArray := prog_13_method_38_code
def yX11_frameOf : MethodName := ⟨RX11, "frameOf", "(I)I"⟩
abbrev cX11_markLine : ByteArray := prog_13_method_39_code
def yX11_markLine : MethodName := ⟨RX11, "markLine", "()V"⟩
abbrev cX11_joinLine : ByteArray := prog_13_method_40_code
def yX11_joinLine : MethodName := ⟨RX11, "joinLine", "()V"⟩
abbrev cX11_weakLine : ByteArray := prog_13_method_41_code
def yX11_weakLine : MethodName := ⟨RX11, "weakLine", "()V"⟩
abbrev cX11_manLine : ByteArray := prog_13_method_42_code
def yX11_manLine : MethodName := ⟨RX11, "manLine", "()V"⟩
abbrev cX11_showsLine : ByteArray := prog_13_method_43_code
def yX11_showsLine : MethodName := ⟨RX11, "showsLine", "()V"⟩
abbrev cX11_boysLine : ByteArray := prog_13_method_44_code
def yX11_boysLine : MethodName := ⟨RX11, "boysLine", "()V"⟩
abbrev cX11_seenLine : ByteArray := prog_13_method_45_code
def yX11_seenLine : MethodName := ⟨RX11, "seenLine", "()V"⟩
abbrev cX11_scratchLine : ByteArray := prog_13_method_46_code
def yX11_scratchLine : MethodName := ⟨RX11, "scratchLine", "()V"⟩
abbrev cX11_fault : ByteArray := prog_13_method_47_code
def yX11_fault : MethodName := ⟨RX11, "fault", "()I"⟩
abbrev cX11_where : ByteArray := prog_13_method_48_code
def yX11_where : MethodName := ⟨RX11, "where", "()I"⟩
abbrev cX11_isReel : ByteArray := prog_13_method_49_code
def yX11_isReel : MethodName := ⟨RX11, "isReel", "(I)Z"⟩
abbrev cX11_isPlace : ByteArray := prog_13_method_50_code
def yX11_isPlace : MethodName := ⟨RX11, "isPlace", "(I)Z"⟩
abbrev cX11_isMan : ByteArray := prog_13_method_51_code
def yX11_isMan : MethodName := ⟨RX11, "isMan", "(I)Z"⟩
abbrev cX11_isWeak : ByteArray := prog_13_method_52_code
def yX11_isWeak : MethodName := ⟨RX11, "isWeak", "(I)Z"⟩
abbrev cX11_isMended : ByteArray := prog_13_method_53_code
def yX11_isMended : MethodName := ⟨RX11, "isMended", "(I)Z"⟩
abbrev cX11_reelAt : ByteArray := prog_13_method_54_code
def yX11_reelAt : MethodName := ⟨RX11, "reelAt", "(I)I"⟩
abbrev cX11_framesAt : ByteArray := prog_13_method_55_code
def yX11_framesAt : MethodName := ⟨RX11, "framesAt", "(I)I"⟩
abbrev cX11_reel : ByteArray := prog_13_method_56_code
def yX11_reel : MethodName := ⟨RX11, "reel", "(II)I"⟩
abbrev cX11_marksOf : ByteArray := prog_13_method_57_code
def yX11_marksOf : MethodName := ⟨RX11, "marksOf", "(I)I"⟩
abbrev cX11_joinsOf : ByteArray := prog_13_method_58_code
def yX11_joinsOf : MethodName := ⟨RX11, "joinsOf", "(I)I"⟩
abbrev cX11_weaksOf : ByteArray := prog_13_method_59_code
def yX11_weaksOf : MethodName := ⟨RX11, "weaksOf", "(I)I"⟩
abbrev cX11_markOf : ByteArray := prog_13_method_60_code
def yX11_markOf : MethodName := ⟨RX11, "markOf", "(II)I"⟩
abbrev cX11_mark : ByteArray := prog_13_method_61_code
def yX11_mark : MethodName := ⟨RX11, "mark", "(II)I"⟩
abbrev cX11_shows : ByteArray := prog_13_method_62_code
def yX11_shows : MethodName := ⟨RX11, "shows", "(I)I"⟩
abbrev cX11_thread : ByteArray := prog_13_method_63_code
def yX11_thread : MethodName := ⟨RX11, "thread", "(I)I"⟩
abbrev cX11_believesOf : ByteArray := prog_13_method_64_code
def yX11_believesOf : MethodName := ⟨RX11, "believesOf", "(II)I"⟩
abbrev cX11_isGone : ByteArray := prog_13_method_65_code
def yX11_isGone : MethodName := ⟨RX11, "isGone", "(I)Z"⟩
abbrev cX11_layNight : ByteArray := prog_13_method_66_code
def yX11_layNight : MethodName := ⟨RX11, "layNight", "(I)V"⟩
abbrev cX11_follows : ByteArray := prog_13_method_67_code
def yX11_follows : MethodName := ⟨RX11, "follows", "(IIIIZ)V"⟩
abbrev cX11_layTold : ByteArray := prog_13_method_68_code
def yX11_layTold : MethodName := ⟨RX11, "layTold", "(I)V"⟩
abbrev cX11_tailOf : ByteArray := prog_13_method_69_code
def yX11_tailOf : MethodName := ⟨RX11, "tailOf", "(I)I"⟩
abbrev cX11_canTell : ByteArray := prog_13_method_70_code
def yX11_canTell : MethodName := ⟨RX11, "canTell", "(II)Z"⟩
abbrev cX11_believes : ByteArray := prog_13_method_71_code
def yX11_believes : MethodName := ⟨RX11, "believes", "(II)I"⟩
abbrev cX11_starts : ByteArray := prog_13_method_72_code
def yX11_starts : MethodName := ⟨RX11, "starts", "(II)I"⟩
abbrev cX11_changes : ByteArray := prog_13_method_73_code
def yX11_changes : MethodName := ⟨RX11, "changes", "(II)I"⟩
abbrev cX11_lost : ByteArray := prog_13_method_74_code
def yX11_lost : MethodName := ⟨RX11, "lost", "(II)I"⟩
abbrev cX11_black : ByteArray := prog_13_method_75_code
def yX11_black : MethodName := ⟨RX11, "black", "(II)I"⟩
abbrev cX11_tail : ByteArray := prog_13_method_76_code
def yX11_tail : MethodName := ⟨RX11, "tail", "(II)I"⟩
abbrev cX11_begins : ByteArray := prog_13_method_77_code
def yX11_begins : MethodName := ⟨RX11, "begins", "(II)I"⟩
abbrev cX11_length : ByteArray := prog_13_method_78_code
def yX11_length : MethodName := ⟨RX11, "length", "(I)I"⟩
abbrev cX11_sumOf : ByteArray := prog_13_method_79_code
def yX11_sumOf : MethodName := ⟨RX11, "sumOf", "(I)I"⟩
abbrev cX11_all : ByteArray := prog_13_method_80_code
def yX11_all : MethodName := ⟨RX11, "all", "(II)I"⟩
abbrev cX11_worst : ByteArray := prog_13_method_81_code
def yX11_worst : MethodName := ⟨RX11, "worst", "(I)I"⟩
abbrev cX11_exact : ByteArray := prog_13_method_82_code
def yX11_exact : MethodName := ⟨RX11, "exact", "(II)I"⟩
abbrev cX11_needsOf : ByteArray := prog_13_method_83_code
def yX11_needsOf : MethodName := ⟨RX11, "needsOf", "(I)I"⟩
abbrev cX11_freeOf : ByteArray := prog_13_method_84_code
def yX11_freeOf : MethodName := ⟨RX11, "freeOf", "(I)I"⟩
abbrev cX11_burn : ByteArray := prog_13_method_85_code
def yX11_burn : MethodName := ⟨RX11, "burn", "(I)Z"⟩
abbrev cX11_needs : ByteArray := prog_13_method_86_code
def yX11_needs : MethodName := ⟨RX11, "needs", "(II)I"⟩
abbrev cX11_dies : ByteArray := prog_13_method_87_code
def yX11_dies : MethodName := ⟨RX11, "dies", "(II)I"⟩
abbrev cX11_firstDies : ByteArray := prog_13_method_88_code
def yX11_firstDies : MethodName := ⟨RX11, "firstDies", "(I)I"⟩
abbrev cX11_arc : ByteArray := prog_13_method_89_code
def yX11_arc : MethodName := ⟨RX11, "arc", "(II)I"⟩
abbrev cX11_free : ByteArray := prog_13_method_90_code
def yX11_free : MethodName := ⟨RX11, "free", "(II)I"⟩
abbrev cX11_never : ByteArray := prog_13_method_91_code
def yX11_never : MethodName := ⟨RX11, "never", "(I)I"⟩
abbrev cX11_isDot : ByteArray := prog_13_method_92_code
def yX11_isDot : MethodName := ⟨RX11, "isDot", "(II)Z"⟩
abbrev cX11_weightOf : ByteArray := prog_13_method_93_code
def yX11_weightOf : MethodName := ⟨RX11, "weightOf", "(II)J"⟩
abbrev cX11_allWeights : ByteArray := prog_13_method_94_code
def yX11_allWeights : MethodName := ⟨RX11, "allWeights", "(I)J"⟩
abbrev cX11_truly : ByteArray := prog_13_method_95_code
def yX11_truly : MethodName := ⟨RX11, "truly", "(IIZ)J"⟩
abbrev cX11_likeliest : ByteArray := prog_13_method_96_code
def yX11_likeliest : MethodName := ⟨RX11, "likeliest", "(I)I"⟩
abbrev cX11_missing : ByteArray := prog_13_method_97_code
def yX11_missing : MethodName := ⟨RX11, "missing", "(IZ)I"⟩
abbrev cX11_words : ByteArray := prog_13_method_98_code
def yX11_words : MethodName := ⟨RX11, "words", "(I)I"⟩
abbrev cX11_power : ByteArray := prog_13_method_99_code
def yX11_power : MethodName := ⟨RX11, "power", "(II)J"⟩
abbrev cX11_holds : ByteArray := prog_13_method_100_code
def yX11_holds : MethodName := ⟨RX11, "holds", "(IIZ)J"⟩
abbrev cX11_pays : ByteArray := prog_13_method_101_code
def yX11_pays : MethodName := ⟨RX11, "pays", "(II)I"⟩
abbrev cX11_wears : ByteArray := prog_13_method_102_code
def yX11_wears : MethodName := ⟨RX11, "wears", "(IIZ)J"⟩
abbrev cX11_signsOf : ByteArray := prog_13_method_103_code
def yX11_signsOf : MethodName := ⟨RX11, "signsOf", "(I)I"⟩
abbrev cX11_signs : ByteArray := prog_13_method_104_code
def yX11_signs : MethodName := ⟨RX11, "signs", "(I)I"⟩
abbrev cX11_fits : ByteArray := prog_13_method_105_code
def yX11_fits : MethodName := ⟨RX11, "fits", "()I"⟩
abbrev cX11_bestSlipOf : ByteArray := prog_13_method_106_code
def yX11_bestSlipOf : MethodName := ⟨RX11, "bestSlipOf", "(I)I"⟩
abbrev cX11_bestSlip : ByteArray := prog_13_method_107_code
def yX11_bestSlip : MethodName := ⟨RX11, "bestSlip", "(I)I"⟩
abbrev cX11_bySlip : ByteArray := prog_13_method_108_code
def yX11_bySlip : MethodName := ⟨RX11, "bySlip", "(I)I"⟩
abbrev cX11_farOf : ByteArray := prog_13_method_109_code
def yX11_farOf : MethodName := ⟨RX11, "farOf", "(II)I"⟩
abbrev cX11_layScratch : ByteArray := prog_13_method_110_code
def yX11_layScratch : MethodName := ⟨RX11, "layScratch", "(I)Z"⟩
abbrev cX11_who : ByteArray := prog_13_method_111_code
def yX11_who : MethodName := ⟨RX11, "who", "(I)I"⟩
abbrev cX11_far : ByteArray := prog_13_method_112_code
def yX11_far : MethodName := ⟨RX11, "far", "(I)I"⟩
abbrev cX11_carry : ByteArray := prog_13_method_113_code
def yX11_carry : MethodName := ⟨RX11, "carry", "(II)V"⟩
abbrev cX11_apartOf : ByteArray := prog_13_method_114_code
def yX11_apartOf : MethodName := ⟨RX11, "apartOf", "(II)I"⟩
abbrev cX11_boyWhy : ByteArray := prog_13_method_115_code
def yX11_boyWhy : MethodName := ⟨RX11, "boyWhy", "(I)I"⟩
abbrev cX11_apart : ByteArray := prog_13_method_116_code
def yX11_apart : MethodName := ⟨RX11, "apart", "(II)I"⟩
abbrev cX11_boys : ByteArray := prog_13_method_117_code
def yX11_boys : MethodName := ⟨RX11, "boys", "(I)I"⟩
abbrev cX11_waits : ByteArray := prog_13_method_118_code
def yX11_waits : MethodName := ⟨RX11, "waits", "(III)I"⟩
abbrev cX11_well : ByteArray := prog_13_method_119_code
def yX11_well : MethodName := ⟨RX11, "well", "(Z)J"⟩
abbrev cX11_wrong : ByteArray := prog_13_method_120_code
def yX11_wrong : MethodName := ⟨RX11, "wrong", "()I"⟩
abbrev cX11_laySorted : ByteArray := prog_13_method_121_code
def yX11_laySorted : MethodName := ⟨RX11, "laySorted", "()V"⟩
abbrev cX11_isEven : ByteArray := prog_13_method_122_code
def yX11_isEven : MethodName := ⟨RX11, "isEven", "(I)Z"⟩
abbrev cX11_exchanges : ByteArray := prog_13_method_123_code
def yX11_exchanges : MethodName := ⟨RX11, "exchanges", "()I"⟩
abbrev cX11_drawn : ByteArray := prog_13_method_124_code
def yX11_drawn : MethodName := ⟨RX11, "drawn", "()I"⟩
abbrev cX11_drawNight : ByteArray := prog_13_method_125_code
def yX11_drawNight : MethodName := ⟨RX11, "drawNight", "(I)V"⟩
abbrev cX11_dark : ByteArray := prog_13_method_126_code
def yX11_dark : MethodName := ⟨RX11, "dark", "(II)I"⟩
abbrev cX11_bestMan : ByteArray := prog_13_method_127_code
def yX11_bestMan : MethodName := ⟨RX11, "bestMan", "(II)I"⟩
abbrev cX11_note : ByteArray := prog_13_method_128_code
def yX11_note : MethodName := ⟨RX11, "note", "()V"⟩
abbrev cX11_threads : ByteArray := prog_13_method_129_code
def yX11_threads : MethodName := ⟨RX11, "threads", "(II)Z"⟩
abbrev cX11_trim : ByteArray := prog_13_method_130_code
def yX11_trim : MethodName := ⟨RX11, "trim", "(IZ)Z"⟩
abbrev cX11_shifted : ByteArray := prog_13_method_131_code
def yX11_shifted : MethodName := ⟨RX11, "shifted", "(III)I"⟩
abbrev cX11_mend : ByteArray := prog_13_method_132_code
def yX11_mend : MethodName := ⟨RX11, "mend", "(I)I"⟩
abbrev cX11_undo : ByteArray := prog_13_method_133_code
def yX11_undo : MethodName := ⟨RX11, "undo", "()Z"⟩
abbrev cX11_image : ByteArray := prog_13_method_134_code
def yX11_image : MethodName := ⟨RX11, "image", "()I"⟩
abbrev cX11_back : ByteArray := prog_13_method_135_code
def yX11_back : MethodName := ⟨RX11, "back", "(I)Z"⟩
abbrev cX11_led : ByteArray := prog_13_method_136_code
def yX11_led : MethodName := ⟨RX11, "led", "(I)I"⟩
abbrev cX11_size : ByteArray := prog_13_method_137_code
def yX11_size : MethodName := ⟨RX11, "size", "(I)I"⟩
abbrev cX11_trouble : ByteArray := prog_13_method_138_code
def yX11_trouble : MethodName := ⟨RX11, "trouble", "()I"⟩
def RJx145de : String := "java/io/Serializable"
def TJx145de : u_T := fun k => match k with
  | _ => ("", "", "", false)
def tyJx145de : Nat → FieldType := fun k => match k with
  | _ => .int
abbrev wsJx145de0 : List Cond := u_ws RJx145de TJx145de 0
theorem nmJx145de : ∀ a, a < 0 → ∀ b, b < 0 → a ≠ b → (TJx145de a).2.1 ≠ (TJx145de b).2.1 := by decide +kernel
theorem tyJx145de_ok : ∀ k, k < 0 → parseFieldDescriptor (TJx145de k).2.2.1 = some (tyJx145de k) := by decide +kernel
def RJx9f9b0 : String := "java/lang/CharSequence"
def TJx9f9b0 : u_T := fun k => match k with
  | _ => ("", "", "", false)
def tyJx9f9b0 : Nat → FieldType := fun k => match k with
  | _ => .int
abbrev wsJx9f9b00 : List Cond := u_ws RJx9f9b0 TJx9f9b0 0
theorem nmJx9f9b0 : ∀ a, a < 0 → ∀ b, b < 0 → a ≠ b → (TJx9f9b0 a).2.1 ≠ (TJx9f9b0 b).2.1 := by decide +kernel
theorem tyJx9f9b0_ok : ∀ k, k < 0 → parseFieldDescriptor (TJx9f9b0 k).2.2.1 = some (tyJx9f9b0 k) := by decide +kernel
def RJxb160c : String := "java/lang/Comparable"
def TJxb160c : u_T := fun k => match k with
  | _ => ("", "", "", false)
def tyJxb160c : Nat → FieldType := fun k => match k with
  | _ => .int
abbrev wsJxb160c0 : List Cond := u_ws RJxb160c TJxb160c 0
theorem nmJxb160c : ∀ a, a < 0 → ∀ b, b < 0 → a ≠ b → (TJxb160c a).2.1 ≠ (TJxb160c b).2.1 := by decide +kernel
theorem tyJxb160c_ok : ∀ k, k < 0 → parseFieldDescriptor (TJxb160c k).2.2.1 = some (tyJxb160c k) := by decide +kernel
def RJ6 : String := "java/lang/Integer"
def TJ6 : u_T := fun k => match k with
  | _ => ("", "", "", false)
def tyJ6 : Nat → FieldType := fun k => match k with
  | _ => .int
abbrev wsJ60 : List Cond := u_ws RJ6 TJ6 0
theorem nmJ6 : ∀ a, a < 0 → ∀ b, b < 0 → a ≠ b → (TJ6 a).2.1 ≠ (TJ6 b).2.1 := by decide +kernel
theorem tyJ6_ok : ∀ k, k < 0 → parseFieldDescriptor (TJ6 k).2.2.1 = some (tyJ6 k) := by decide +kernel
abbrev cJ6_bitCount_0f7a4 : ByteArray := prog_18_method_49_code
def yJ6_bitCount_0f7a4 : MethodName := ⟨RJ6, "bitCount", "(I)I"⟩
def RJ9 : String := "java/lang/Math"
def TJ9 : u_T := fun k => match k with
  | _ => ("", "", "", false)
def tyJ9 : Nat → FieldType := fun k => match k with
  | _ => .int
abbrev wsJ90 : List Cond := u_ws RJ9 TJ9 0
theorem nmJ9 : ∀ a, a < 0 → ∀ b, b < 0 → a ≠ b → (TJ9 a).2.1 ≠ (TJ9 b).2.1 := by decide +kernel
theorem tyJ9_ok : ∀ k, k < 0 → parseFieldDescriptor (TJ9 k).2.2.1 = some (tyJ9 k) := by decide +kernel
abbrev cJ9_abs_0f7a4 : ByteArray := prog_19_method_59_code
def yJ9_abs_0f7a4 : MethodName := ⟨RJ9, "abs", "(I)I"⟩
abbrev cJ9_max_7cf53 : ByteArray := prog_19_method_65_code
def yJ9_max_7cf53 : MethodName := ⟨RJ9, "max", "(II)I"⟩
abbrev cJ9_min_7cf53 : ByteArray := prog_19_method_69_code
def yJ9_min_7cf53 : MethodName := ⟨RJ9, "min", "(II)I"⟩
def RJ0 : String := "java/lang/String"
def TJ0 : u_T := fun k => match k with
  | _ => ("", "", "", false)
def tyJ0 : Nat → FieldType := fun k => match k with
  | _ => .int
abbrev wsJ00 : List Cond := u_ws RJ0 TJ0 0
theorem nmJ0 : ∀ a, a < 0 → ∀ b, b < 0 → a ≠ b → (TJ0 a).2.1 ≠ (TJ0 b).2.1 := by decide +kernel
theorem tyJ0_ok : ∀ k, k < 0 → parseFieldDescriptor (TJ0 k).2.2.1 = some (tyJ0 k) := by decide +kernel
abbrev cJ0_length_8abf5 : ByteArray := prog_21_method_54_code
def yJ0_length_8abf5 : MethodName := ⟨RJ0, "length", "()I"⟩
abbrev cJ0_charAt_5068e : ByteArray := prog_21_method_56_code
def yJ0_charAt_5068e : MethodName := ⟨RJ0, "charAt", "(I)C"⟩
abbrev cJ0_coder_7d493 : ByteArray := prog_21_method_152_code
def yJ0_coder_7d493 : MethodName := ⟨RJ0, "coder", "()B"⟩
abbrev cJ0_isLatin1_aae02 : ByteArray := prog_21_method_154_code
def yJ0_isLatin1_aae02 : MethodName := ⟨RJ0, "isLatin1", "()Z"⟩
abbrev cJ0_checkIndex_df160 : ByteArray := prog_21_method_155_code
def yJ0_checkIndex_df160 : MethodName := ⟨RJ0, "checkIndex", "(II)V"⟩
def RJ1 : String := "java/lang/StringLatin1"
def TJ1 : u_T := fun k => match k with
  | _ => ("", "", "", false)
def tyJ1 : Nat → FieldType := fun k => match k with
  | _ => .int
abbrev wsJ10 : List Cond := u_ws RJ1 TJ1 0
theorem nmJ1 : ∀ a, a < 0 → ∀ b, b < 0 → a ≠ b → (TJ1 a).2.1 ≠ (TJ1 b).2.1 := by decide +kernel
theorem tyJ1_ok : ∀ k, k < 0 → parseFieldDescriptor (TJ1 k).2.2.1 = some (tyJ1 k) := by decide +kernel
abbrev cJ1_charAt_3b067 : ByteArray := prog_22_method_2_code
def yJ1_charAt_3b067 : MethodName := ⟨RJ1, "charAt", "([BI)C"⟩
def RJ2 : String := "java/lang/StringUTF16"
def TJ2 : u_T := fun k => match k with
  | _ => ("", "", "", false)
def tyJ2 : Nat → FieldType := fun k => match k with
  | _ => .int
abbrev wsJ20 : List Cond := u_ws RJ2 TJ2 0
theorem nmJ2 : ∀ a, a < 0 → ∀ b, b < 0 → a ≠ b → (TJ2 a).2.1 ≠ (TJ2 b).2.1 := by decide +kernel
theorem tyJ2_ok : ∀ k, k < 0 → parseFieldDescriptor (TJ2 k).2.2.1 = some (tyJ2 k) := by decide +kernel
abbrev cJ2_getChar_3b067 : ByteArray := prog_23_method_5_code
def yJ2_getChar_3b067 : MethodName := ⟨RJ2, "getChar", "([BI)C"⟩
abbrev cJ2_length_9d52b : ByteArray := prog_23_method_6_code
def yJ2_length_9d52b : MethodName := ⟨RJ2, "length", "([B)I"⟩
abbrev cJ2_charAt_3b067 : ByteArray := prog_23_method_83_code
def yJ2_charAt_3b067 : MethodName := ⟨RJ2, "charAt", "([BI)C"⟩
abbrev cJ2_checkIndex_2214a : ByteArray := prog_23_method_91_code
def yJ2_checkIndex_2214a : MethodName := ⟨RJ2, "checkIndex", "(I[B)V"⟩
def RJ10 : String := "java/lang/System"
def TJ10 : u_T := fun k => match k with
  | _ => ("", "", "", false)
def tyJ10 : Nat → FieldType := fun k => match k with
  | _ => .int
abbrev wsJ100 : List Cond := u_ws RJ10 TJ10 0
theorem nmJ10 : ∀ a, a < 0 → ∀ b, b < 0 → a ≠ b → (TJ10 a).2.1 ≠ (TJ10 b).2.1 := by decide +kernel
theorem tyJ10_ok : ∀ k, k < 0 → parseFieldDescriptor (TJ10 k).2.2.1 = some (tyJ10 k) := by decide +kernel
def RJxfd54e : String := "java/lang/constant/Constable"
def TJxfd54e : u_T := fun k => match k with
  | _ => ("", "", "", false)
def tyJxfd54e : Nat → FieldType := fun k => match k with
  | _ => .int
abbrev wsJxfd54e0 : List Cond := u_ws RJxfd54e TJxfd54e 0
theorem nmJxfd54e : ∀ a, a < 0 → ∀ b, b < 0 → a ≠ b → (TJxfd54e a).2.1 ≠ (TJxfd54e b).2.1 := by decide +kernel
theorem tyJxfd54e_ok : ∀ k, k < 0 → parseFieldDescriptor (TJxfd54e k).2.2.1 = some (tyJxfd54e k) := by decide +kernel
def RJx3cf43 : String := "java/lang/constant/ConstantDesc"
def TJx3cf43 : u_T := fun k => match k with
  | _ => ("", "", "", false)
def tyJx3cf43 : Nat → FieldType := fun k => match k with
  | _ => .int
abbrev wsJx3cf430 : List Cond := u_ws RJx3cf43 TJx3cf43 0
theorem nmJx3cf43 : ∀ a, a < 0 → ∀ b, b < 0 → a ≠ b → (TJx3cf43 a).2.1 ≠ (TJx3cf43 b).2.1 := by decide +kernel
theorem tyJx3cf43_ok : ∀ k, k < 0 → parseFieldDescriptor (TJx3cf43 k).2.2.1 = some (tyJx3cf43 k) := by decide +kernel
def RJ3 : String := "jdk/internal/util/Preconditions"
def TJ3 : u_T := fun k => match k with
  | _ => ("", "", "", false)
def tyJ3 : Nat → FieldType := fun k => match k with
  | _ => .int
abbrev wsJ30 : List Cond := u_ws RJ3 TJ3 0
theorem nmJ3 : ∀ a, a < 0 → ∀ b, b < 0 → a ≠ b → (TJ3 a).2.1 ≠ (TJ3 b).2.1 := by decide +kernel
theorem tyJ3_ok : ∀ k, k < 0 → parseFieldDescriptor (TJ3 k).2.2.1 = some (tyJ3 k) := by decide +kernel
abbrev cJ3_checkIndex_8e157 : ByteArray := prog_29_method_11_code
def yJ3_checkIndex_8e157 : MethodName := ⟨RJ3, "checkIndex", "(IILjava/util/function/BiFunction;)I"⟩
def RL : String := "ReelChangeLaw"
abbrev cL_led : ByteArray := method_3_code
def yL_led : MethodName := ⟨RL, "led", "(LReelChange;I[J)I"⟩
abbrev cL_law : ByteArray := code
def yL_law : MethodName := ⟨RL, "law", "([I)Z"⟩
def wU0 : List Cond := [Cond.methodLink RX8 1 objectInit, Cond.instanceMethod objectInit, Cond.code objectInit ⟨#[0xb1]⟩ 1 none, Cond.fieldLink RX8 7 "ReelChange$Table" "count" "I", Cond.methodLink RX8 13 Lib.Math.max.name, Cond.static Lib.Math.max.name, Cond.initialized "java/lang/Math", Cond.code Lib.Math.max.name Lib.Math.max.code 2 (some .int), Cond.fieldLink RX8 19 "ReelChange$Table" "room" "I", Cond.fieldLink RX8 22 "ReelChange$Table" "width" "I", Cond.arrayClass .int, Cond.fieldLink RX8 25 "ReelChange$Table" "cells" "[I", Cond.methodLink RX7 3 objectInit, Cond.classLink RX7 9 RX8, Cond.instantiable RX8 4, Cond.initialized RX8, Cond.methodLink RX7 11 yX8_init, Cond.instanceMethod yX8_init, Cond.code yX8_init cX8_init 3 none, Cond.fieldLink RX7 14 "ReelChange$State" "reels" "LReelChange$Table;", Cond.fieldLink RX7 20 "ReelChange$State" "marks" "LReelChange$Table;", Cond.fieldLink RX7 23 "ReelChange$State" "weaks" "LReelChange$Table;", Cond.fieldLink RX7 26 "ReelChange$State" "places" "LReelChange$Table;", Cond.fieldLink RX7 29 "ReelChange$State" "mended" "I"]
theorem gU0_ : GoodIn lw_tbl wU0 := goodIn_r _ [179, 154, 155, 188, 180, 181, 130, 182, 183, 186, 205, 187, 173, 174, 175, 129, 176, 177, 178, 206, 211, 214, 218, 223] (by decide +kernel) (by decide +kernel)
def wU1 : List Cond := [Cond.fieldLink RX7 33 "ReelChange$State" "trims" "I", Cond.methodLink RX7 36 yX8_clear, Cond.instanceMethod yX8_clear, Cond.selects RX8 yX8_clear yX8_clear, Cond.code yX8_clear cX8_clear 1 none, Cond.methodLink RX7 47 yX8_has, Cond.instanceMethod yX8_has, Cond.selects RX8 yX8_has yX8_has, Cond.code yX8_has cX8_has 2 (some .boolean), Cond.methodLink RX3 1 objectInit, Cond.classLink RX3 7 RX7, Cond.instantiable RX7 6, Cond.initialized RX7, Cond.instanceMethod yX7_init, Cond.code yX7_init cX7_init 1 none, Cond.fieldLink RX3 10 "ReelChange$House" "atFirst" "LReelChange$State;", Cond.classLink RX3 16 RX8, Cond.methodLink RX3 18 yX8_init, Cond.fieldLink RX3 21 "ReelChange$House" "numbers" "LReelChange$Table;", Cond.fieldLink RX3 25 "ReelChange$House" "towns" "LReelChange$Table;", Cond.fieldLink RX3 28 "ReelChange$House" "joins" "LReelChange$Table;", Cond.fieldLink RX3 31 "ReelChange$House" "men" "LReelChange$Table;", Cond.fieldLink RX3 34 "ReelChange$House" "boys" "LReelChange$Table;", Cond.fieldLink RX3 37 "ReelChange$House" "signs" "LReelChange$Table;"]
theorem gU1_ : GoodIn lw_tbl wU1 := goodIn_r _ [225, 538, 539, 540, 541, 816, 800, 801, 802, 167, 168, 169, 128, 171, 172, 242, 240, 241, 245, 247, 250, 253, 257, 260] (by decide +kernel) (by decide +kernel)
def wU2 : List Cond := [Cond.fieldLink RX3 40 "ReelChange$House" "scratches" "LReelChange$Table;", Cond.methodLink RX3 47 yX7_clear, Cond.instanceMethod yX7_clear, Cond.selects RX7 yX7_clear yX7_clear, Cond.code yX7_clear cX7_clear 1 none, Cond.methodLink RX3 50 yX8_clear, Cond.methodLink RX4 3 objectInit, Cond.classLink RX4 11 RX7, Cond.fieldLink RX4 13 "ReelChange$Kept" "ahead" "[LReelChange$State;", Cond.fieldLink RX4 17 "ReelChange$Kept" "images" "[LReelChange$State;", Cond.fieldLink RX4 20 "ReelChange$Kept" "acts" "I", Cond.fieldLink RX4 24 "ReelChange$Kept" "next" "I", Cond.fieldLink RX4 27 "ReelChange$Kept" "imaged" "I", Cond.methodLink RX5 3 objectInit, Cond.classLink RX5 9 RX8, Cond.methodLink RX5 11 yX8_init, Cond.fieldLink RX5 14 "ReelChange$Night" "rows" "LReelChange$Table;", Cond.fieldLink RX5 20 "ReelChange$Night" "snapped" "I", Cond.fieldLink RX5 24 "ReelChange$Night" "mostSlip" "I", Cond.fieldLink RX5 27 "ReelChange$Night" "slip" "I", Cond.fieldLink RX5 30 "ReelChange$Night" "isDrawn" "Z", Cond.fieldLink RX5 34 "ReelChange$Night" "seed" "I", Cond.fieldLink RX5 37 "ReelChange$Night" "tick" "I", Cond.fieldLink RX5 40 "ReelChange$Night" "motorTick" "I"]
theorem gU2_ : GoodIn lw_tbl wU2 := goodIn_r _ [264, 534, 535, 536, 537, 542, 347, 348, 351, 352, 353, 355, 356, 374, 375, 376, 377, 381, 383, 384, 385, 386, 387, 388] (by decide +kernel) (by decide +kernel)
def wU3 : List Cond := [Cond.fieldLink RX5 43 "ReelChange$Night" "ahead" "I", Cond.methodLink RX0 3 objectInit, Cond.classLink RX0 9 RX8, Cond.methodLink RX0 11 yX8_init, Cond.fieldLink RX0 14 "ReelChange$Arcs" "left" "LReelChange$Table;", Cond.fieldLink RX0 20 "ReelChange$Arcs" "dying" "I", Cond.methodLink RX6 3 objectInit, Cond.classLink RX6 9 RX8, Cond.methodLink RX6 11 yX8_init, Cond.fieldLink RX6 14 "ReelChange$Riders" "backAt" "LReelChange$Table;", Cond.fieldLink RX6 20 "ReelChange$Riders" "apartNeeded" "I", Cond.fieldLink RX6 24 "ReelChange$Riders" "waited" "I", Cond.methodLink RX1 3 objectInit, Cond.classLink RX1 9 RX8, Cond.methodLink RX1 13 yX8_init, Cond.fieldLink RX1 16 "ReelChange$Exchanger" "inOrder" "LReelChange$Table;", Cond.fieldLink RX1 20 "ReelChange$Exchanger" "parts" "LReelChange$Table;", Cond.arrayClass .long, Cond.fieldLink RX1 23 "ReelChange$Exchanger" "surplus" "[J", Cond.methodLink RX2 1 objectInit, Cond.fieldLink RX2 7 "ReelChange$Fraction" "upper" "J", Cond.fieldLink RX2 13 "ReelChange$Fraction" "lower" "J", Cond.methodLink RX9 3 objectInit, Cond.fieldLink RX9 9 "ReelChange$Text" "taped" "I"]
theorem gU3_ : GoodIn lw_tbl wU3 := goodIn_r _ [389, 414, 415, 416, 417, 419, 431, 432, 433, 434, 435, 437, 451, 452, 453, 454, 455, 337, 456, 469, 470, 472, 161, 286] (by decide +kernel) (by decide +kernel)
def wU4 : List Cond := [Cond.classLink RX9 15 RX3, Cond.instantiable RX3 8, Cond.initialized RX3, Cond.instanceMethod yX3_init, Cond.code yX3_init cX3_init 1 none, Cond.fieldLink RX9 18 "ReelChange$Text" "house" "LReelChange$House;", Cond.fieldLink RX9 22 "ReelChange$Text" "faultNumber" "I", Cond.fieldLink RX9 25 "ReelChange$Text" "faultPlace" "I", Cond.arrayClass .byte, Cond.fieldLink RX9 28 "ReelChange$Text" "tape" "[B", Cond.fieldLink RX9 32 "ReelChange$Text" "end" "I", Cond.fieldLink RX9 35 "ReelChange$Text" "names" "[J", Cond.classLink RX9 39 RX8, Cond.methodLink RX9 41 yX8_init, Cond.fieldLink RX9 44 "ReelChange$Text" "named" "LReelChange$Table;", Cond.fieldLink RX9 48 "ReelChange$Text" "kind" "I", Cond.fieldLink RX9 51 "ReelChange$Text" "start" "I", Cond.fieldLink RX9 54 "ReelChange$Text" "position" "I", Cond.fieldLink RX9 57 "ReelChange$Text" "value" "I", Cond.fieldLink RX9 60 "ReelChange$Text" "letters" "J", Cond.fieldLink RX9 64 "ReelChange$Text" "taken" "I", Cond.fieldLink RX9 67 "ReelChange$Text" "takenAt" "I", Cond.methodLink RX10 1 objectInit, Cond.classLink RX10 7 RX9]
theorem gU4_ : GoodIn lw_tbl wU4 := goodIn_r _ [162, 163, 127, 165, 166, 288, 290, 292, 336, 294, 295, 296, 284, 285, 297, 298, 299, 300, 301, 302, 303, 304, 153, 156] (by decide +kernel) (by decide +kernel)
def wU5 : List Cond := [Cond.instantiable RX9 15, Cond.initialized RX9, Cond.instanceMethod yX9_init, Cond.code yX9_init cX9_init 1 none, Cond.fieldLink RX10 10 "ReelChange" "text" "LReelChange$Text;", Cond.classLink RX10 16 RX3, Cond.fieldLink RX10 19 "ReelChange" "told" "LReelChange$House;", Cond.classLink RX10 23 RX7, Cond.fieldLink RX10 26 "ReelChange" "now" "LReelChange$State;", Cond.classLink RX10 30 RX4, Cond.instantiable RX4 5, Cond.initialized RX4, Cond.methodLink RX10 32 yX4_init, Cond.instanceMethod yX4_init, Cond.code yX4_init cX4_init 2 none, Cond.fieldLink RX10 33 "ReelChange" "kept" "LReelChange$Kept;", Cond.classLink RX10 37 RX5, Cond.instantiable RX5 9, Cond.initialized RX5, Cond.instanceMethod yX5_init, Cond.code yX5_init cX5_init 1 none, Cond.fieldLink RX10 40 "ReelChange" "night" "LReelChange$Night;", Cond.classLink RX10 44 RX0, Cond.instantiable RX0 2]
theorem gU5_ : GoodIn lw_tbl wU5 := goodIn_r _ [157, 126, 159, 160, 479, 338, 480, 340, 481, 342, 343, 131, 344, 345, 346, 482, 369, 370, 132, 372, 373, 483, 409, 410] (by decide +kernel) (by decide +kernel)
def wU6 : List Cond := [Cond.initialized RX0, Cond.instanceMethod yX0_init, Cond.code yX0_init cX0_init 1 none, Cond.fieldLink RX10 47 "ReelChange" "arcs" "LReelChange$Arcs;", Cond.classLink RX10 51 RX6, Cond.instantiable RX6 3, Cond.initialized RX6, Cond.instanceMethod yX6_init, Cond.code yX6_init cX6_init 1 none, Cond.fieldLink RX10 54 "ReelChange" "riders" "LReelChange$Riders;", Cond.classLink RX10 58 RX1, Cond.instantiable RX1 3, Cond.initialized RX1, Cond.instanceMethod yX1_init, Cond.code yX1_init cX1_init 1 none, Cond.fieldLink RX10 61 "ReelChange" "exchanger" "LReelChange$Exchanger;", Cond.classLink RX10 65 RX2, Cond.instantiable RX2 2, Cond.initialized RX2, Cond.instanceMethod yX2_init, Cond.code yX2_init cX2_init 1 none, Cond.fieldLink RX10 68 "ReelChange" "fraction" "LReelChange$Fraction;", Cond.fieldLink RX10 72 "ReelChange" "latestTrouble" "I", Cond.fieldLink RX10 109 "ReelChange$State" "places" "LReelChange$Table;"]
theorem gU6_ : GoodIn lw_tbl wU6 := goodIn_r _ [133, 412, 413, 484, 426, 427, 134, 429, 430, 485, 446, 447, 135, 449, 450, 486, 464, 465, 136, 467, 468, 487, 488, 221] (by decide +kernel) (by decide +kernel)
def wU7 : List Cond := [Cond.fieldLink RX10 113 "ReelChange$Table" "count" "I", Cond.fieldLink RX10 191 "ReelChange$House" "men" "LReelChange$Table;", Cond.methodLink RX10 127 yX8_has, Cond.methodLink RX10 163 yX10_runNight, Cond.instanceMethod yX10_runNight, Cond.selects RX10 yX10_runNight yX10_runNight, Cond.initialized RX10, Cond.code yX10_runNight cX10_runNight 2 (some .boolean), Cond.methodLink RX10 83 yX10_refuse, Cond.instanceMethod yX10_refuse, Cond.selects RX10 yX10_refuse yX10_refuse, Cond.code yX10_refuse cX10_refuse 2 (some .int), Cond.fieldLink RX10 90 "ReelChange$Text" "faultNumber" "I", Cond.fieldLink RX10 124 "ReelChange$State" "reels" "LReelChange$Table;", Cond.methodLink RX10 156 yX10_ofPlace, Cond.instanceMethod yX10_ofPlace, Cond.selects RX10 yX10_ofPlace yX10_ofPlace, Cond.code yX10_ofPlace cX10_ofPlace 3 (some .int), Cond.methodLink RX10 159 yX10_ofNight, Cond.instanceMethod yX10_ofNight, Cond.selects RX10 yX10_ofNight yX10_ofNight, Cond.code yX10_ofNight cX10_ofNight 4 (some .int), Cond.methodLink RX10 184 yX10_isOpen, Cond.instanceMethod yX10_isOpen]
theorem gU7_ : GoodIn lw_tbl wU7 := goodIn_r _ [193, 256, 799, 843, 845, 31, 125, 846, 522, 524, 0, 525, 291, 209, 827, 829, 29, 830, 839, 841, 30, 842, 964, 966] (by decide +kernel) (by decide +kernel)
def wU8 : List Cond := [Cond.selects RX10 yX10_isOpen yX10_isOpen, Cond.code yX10_isOpen cX10_isOpen 1 (some .boolean), Cond.methodLink RX10 337 yX10_refuseAct, Cond.instanceMethod yX10_refuseAct, Cond.selects RX10 yX10_refuseAct yX10_refuseAct, Cond.code yX10_refuseAct cX10_refuseAct 2 (some .boolean), Cond.methodLink RX10 294 yX10_rideTrouble, Cond.instanceMethod yX10_rideTrouble, Cond.selects RX10 yX10_rideTrouble yX10_rideTrouble, Cond.code yX10_rideTrouble cX10_rideTrouble 4 (some .int), Cond.fieldLink RX10 256 "ReelChange$House" "scratches" "LReelChange$Table;", Cond.methodLink RX10 273 yX7_isWeak, Cond.instanceMethod yX7_isWeak, Cond.selects RX7 yX7_isWeak yX7_isWeak, Cond.code yX7_isWeak cX7_isWeak 2 (some .boolean), Cond.fieldLink RX10 144 "ReelChange$State" "weaks" "LReelChange$Table;", Cond.methodLink RX10 352 yX4_takeBack, Cond.instanceMethod yX4_takeBack, Cond.selects RX4 yX4_takeBack yX4_takeBack, Cond.code yX4_takeBack cX4_takeBack 2 (some .boolean), Cond.methodLink RX10 359 yX4_goBack, Cond.instanceMethod yX4_goBack, Cond.selects RX4 yX4_goBack yX4_goBack, Cond.code yX4_goBack cX4_goBack 3 (some .boolean)]
theorem gU8_ : GoodIn lw_tbl wU8 := goodIn_r _ [37, 967, 1232, 1234, 51, 1235, 1141, 1143, 44, 1144, 266, 1121, 813, 814, 815, 215, 1275, 1276, 1277, 1278, 1291, 1292, 1293, 1294] (by decide +kernel) (by decide +kernel)
def wU9 : List Cond := [Cond.fieldLink RX10 76 "ReelChange$Text" "taped" "I", Cond.methodLink RX10 79 yX9_write, Cond.instanceMethod yX9_write, Cond.selects RX9 yX9_write yX9_write, Cond.code yX9_write cX9_write 3 none, Cond.methodLink RX9 104 yX9_is, Cond.instanceMethod yX9_is, Cond.selects RX9 yX9_is yX9_is, Cond.code yX9_is cX9_is 3 (some .boolean), Cond.methodLink RX9 298 yX9_kindAt, Cond.instanceMethod yX9_kindAt, Cond.selects RX9 yX9_kindAt yX9_kindAt, Cond.code yX9_kindAt cX9_kindAt 3 (some .int), Cond.methodLink RX9 113 yX9_isReserved, Cond.instanceMethod yX9_isReserved, Cond.selects RX9 yX9_isReserved yX9_isReserved, Cond.code yX9_isReserved cX9_isReserved 1 (some .boolean), Cond.methodLink RX9 84 yX9_refuseAt, Cond.instanceMethod yX9_refuseAt, Cond.selects RX9 yX9_refuseAt yX9_refuseAt, Cond.code yX9_refuseAt cX9_refuseAt 3 (some .boolean), Cond.methodLink RX9 70 yX3_clear, Cond.instanceMethod yX3_clear, Cond.selects RX3 yX3_clear yX3_clear]
theorem gU9_ : GoodIn lw_tbl wU9 := goodIn_r _ [287, 514, 515, 516, 517, 558, 560, 4, 561, 548, 550, 2, 551, 641, 643, 10, 644, 614, 616, 6, 617, 530, 531, 532] (by decide +kernel) (by decide +kernel)
def wU10 : List Cond := [Cond.code yX3_clear cX3_clear 1 none, Cond.methodLink RX9 73 yX8_clear, Cond.methodLink RX9 74 yX9_next, Cond.instanceMethod yX9_next, Cond.selects RX9 yX9_next yX9_next, Cond.code yX9_next cX9_next 1 none, Cond.methodLink RX9 77 yX9_isLine, Cond.instanceMethod yX9_isLine, Cond.selects RX9 yX9_isLine yX9_isLine, Cond.code yX9_isLine cX9_isLine 1 (some .boolean), Cond.methodLink RX10 87 yX9_read, Cond.instanceMethod yX9_read, Cond.selects RX9 yX9_read yX9_read, Cond.code yX9_read cX9_read 4 none, Cond.methodLink RX11 1 objectInit, Cond.fieldLink RX11 7 "ReelChangeModel" "tape" "[I", Cond.fieldLink RX11 13 "ReelChangeModel" "place" "I", Cond.fieldLink RX11 17 "ReelChangeModel" "letters" "[I", Cond.fieldLink RX11 20 "ReelChangeModel" "\x72" "[I", Cond.fieldLink RX11 23 "ReelChangeModel" "fresh" "[I", Cond.fieldLink RX11 26 "ReelChangeModel" "st" "[I", Cond.fieldLink RX11 29 "ReelChangeModel" "undone" "[I", Cond.fieldLink RX11 32 "ReelChangeModel" "kept" "[I", Cond.fieldLink RX11 35 "ReelChangeModel" "from" "[I"]
theorem gU10_ : GoodIn lw_tbl wU10 := goodIn_r _ [533, 543, 544, 546, 1, 547, 553, 555, 3, 556, 526, 527, 528, 529, 1378, 1380, 1389, 1391, 1394, 1395, 1396, 1397, 1398, 1401] (by decide +kernel) (by decide +kernel)
def wU11 : List Cond := [Cond.fieldLink RX11 38 "ReelChangeModel" "begin" "[I", Cond.fieldLink RX11 41 "ReelChangeModel" "motor" "[I", Cond.fieldLink RX11 44 "ReelChangeModel" "change" "[I", Cond.fieldLink RX11 47 "ReelChangeModel" "startFrame" "[I", Cond.fieldLink RX11 50 "ReelChangeModel" "changeFrame" "[I", Cond.fieldLink RX11 53 "ReelChangeModel" "lostAt" "[I", Cond.fieldLink RX11 56 "ReelChangeModel" "blackAt" "[I", Cond.fieldLink RX11 59 "ReelChangeModel" "slips" "[I", Cond.fieldLink RX11 62 "ReelChangeModel" "leftArc" "[I", Cond.fieldLink RX11 65 "ReelChangeModel" "died" "[I", Cond.fieldLink RX11 68 "ReelChangeModel" "arcs" "[I", Cond.fieldLink RX11 71 "ReelChangeModel" "there" "[I", Cond.fieldLink RX11 74 "ReelChangeModel" "backAt" "[I", Cond.fieldLink RX11 77 "ReelChangeModel" "sorted" "[I", Cond.fieldLink RX11 80 "ReelChangeModel" "parts" "[I", Cond.fieldLink RX11 83 "ReelChangeModel" "thrown" "I", Cond.fieldLink RX11 86 "ReelChangeModel" "trouble" "I", Cond.fieldLink RX11 213 "ReelChangeModel" "hasHouse" "Z", Cond.methodLink RX11 370 yX11_isMan, Cond.instanceMethod yX11_isMan, Cond.selects RX11 yX11_isMan yX11_isMan, Cond.initialized RX11, Cond.code yX11_isMan cX11_isMan 2 (some .boolean), Cond.fieldLink RX11 125 "ReelChangeModel" "fault" "I"]
theorem gU11_ : GoodIn lw_tbl wU11 := goodIn_r _ [1402, 1403, 1404, 1405, 1406, 1407, 1408, 1409, 1410, 1411, 1412, 1416, 1417, 1418, 1419, 1379, 1390, 1393, 1763, 1765, 95, 137, 1766, 1388] (by decide +kernel) (by decide +kernel)
def wU12 : List Cond := [Cond.methodLink RX11 200 yX11_good, Cond.instanceMethod yX11_good, Cond.selects RX11 yX11_good yX11_good, Cond.code yX11_good cX11_good 1 none, Cond.methodLink RX11 327 yX11_isReel, Cond.instanceMethod yX11_isReel, Cond.selects RX11 yX11_isReel yX11_isReel, Cond.code yX11_isReel cX11_isReel 2 (some .boolean), Cond.methodLink RX11 203 yX11_no, Cond.instanceMethod yX11_no, Cond.selects RX11 yX11_no yX11_no, Cond.code yX11_no cX11_no 2 (some .int), Cond.methodLink RX11 345 yX11_isPlace, Cond.instanceMethod yX11_isPlace, Cond.selects RX11 yX11_isPlace yX11_isPlace, Cond.code yX11_isPlace cX11_isPlace 2 (some .boolean), Cond.methodLink RX11 376 yX11_canTell, Cond.instanceMethod yX11_canTell, Cond.selects RX11 yX11_canTell yX11_canTell, Cond.code yX11_canTell cX11_canTell 3 (some .boolean), Cond.methodLink RX11 182 yX11_in, Cond.static yX11_in, Cond.code yX11_in cX11_in 3 (some .boolean), Cond.methodLink RX11 446 yX11_boyWhy]
theorem gU12_ : GoodIn lw_tbl wU12 := goodIn_r _ [1521, 1523, 54, 1524, 1708, 1710, 86, 1711, 1528, 1530, 55, 1531, 1743, 1745, 92, 1746, 1759, 1761, 94, 1762, 1525, 1526, 1527, 1980] (by decide +kernel) (by decide +kernel)
def wU13 : List Cond := [Cond.instanceMethod yX11_boyWhy, Cond.selects RX11 yX11_boyWhy yX11_boyWhy, Cond.code yX11_boyWhy cX11_boyWhy 2 (some .int), Cond.methodLink RX11 440 yX11_layScratch, Cond.instanceMethod yX11_layScratch, Cond.selects RX11 yX11_layScratch yX11_layScratch, Cond.code yX11_layScratch cX11_layScratch 4 (some .boolean), Cond.methodLink RX11 412 yX11_isWeak, Cond.instanceMethod yX11_isWeak, Cond.selects RX11 yX11_isWeak yX11_isWeak, Cond.code yX11_isWeak cX11_isWeak 2 (some .boolean), Cond.methodLink RX11 473 yX11_isNot, Cond.instanceMethod yX11_isNot, Cond.selects RX11 yX11_isNot yX11_isNot, Cond.code yX11_isNot cX11_isNot 2 (some .boolean), Cond.fieldLink RX11 216 "ReelChangeModel" "undos" "I", Cond.fieldLink RX11 219 "ReelChangeModel" "images" "I", Cond.fieldLink RX11 89 "ReelChangeModel" "taped" "I", Cond.fieldLink RX11 121 "ReelChangeModel" "failed" "Z", Cond.fieldLink RX11 111 "ReelChangeModel" "token" "I", Cond.methodLink RX11 138 yX11_isWord, Cond.instanceMethod yX11_isWord, Cond.selects RX11 yX11_isWord yX11_isWord, Cond.code yX11_isWord cX11_isWord 4 (some .boolean)]
theorem gU13_ : GoodIn lw_tbl wU13 := goodIn_r _ [1982, 115, 1983, 1964, 1966, 113, 1967, 1919, 1921, 110, 1922, 2043, 2045, 122, 2046, 1399, 1400, 1381, 1392, 1385, 1551, 1553, 59, 1554] (by decide +kernel) (by decide +kernel)
def wU14 : List Cond := [Cond.fieldLink RX11 92 "ReelChangeModel" "size" "I", Cond.fieldLink RX11 95 "ReelChangeModel" "end" "I", Cond.methodLink RX11 98 yX11_look, Cond.instanceMethod yX11_look, Cond.selects RX11 yX11_look yX11_look, Cond.code yX11_look cX11_look 2 (some .int), Cond.fieldLink RX11 102 "ReelChangeModel" "at" "I", Cond.fieldLink RX11 105 "ReelChangeModel" "nameSize" "I", Cond.fieldLink RX11 108 "ReelChangeModel" "whole" "I", Cond.methodLink RX11 225 yX11_opens, Cond.instanceMethod yX11_opens, Cond.selects RX11 yX11_opens yX11_opens, Cond.code yX11_opens cX11_opens 3 (some .boolean), Cond.methodLink RX11 247 yX11_opensOnce, Cond.instanceMethod yX11_opensOnce, Cond.selects RX11 yX11_opensOnce yX11_opensOnce, Cond.code yX11_opensOnce cX11_opensOnce 3 (some .boolean), Cond.methodLink RX11 148 yX11_bad, Cond.instanceMethod yX11_bad, Cond.selects RX11 yX11_bad yX11_bad, Cond.code yX11_bad cX11_bad 3 none, Cond.methodLink RX11 142 yX11_next, Cond.instanceMethod yX11_next, Cond.selects RX11 yX11_next yX11_next]
theorem gU14_ : GoodIn lw_tbl wU14 := goodIn_r _ [1382, 1384, 1536, 1538, 57, 1539, 1383, 1387, 1386, 1592, 1594, 67, 1595, 1665, 1667, 80, 1668, 1561, 1563, 61, 1564, 1532, 1534, 56] (by decide +kernel) (by decide +kernel)
def wU15 : List Cond := [Cond.code yX11_next cX11_next 4 none, Cond.methodLink RX11 206 yX11_readLine, Cond.instanceMethod yX11_readLine, Cond.selects RX11 yX11_readLine yX11_readLine, Cond.code yX11_readLine cX11_readLine 1 none, Cond.methodLink RX3 43 yX8_at, Cond.instanceMethod yX8_at, Cond.selects RX8 yX8_at yX8_at, Cond.code yX8_at cX8_at 3 (some .int), Cond.constant RJ6 265 (1431655765), Cond.constant RJ6 266 (858993459), Cond.constant RJ6 267 (252645135), Cond.fieldLink RX10 150 "ReelChange$House" "towns" "LReelChange$Table;", Cond.fieldLink RX10 131 "ReelChange$State" "marks" "LReelChange$Table;", Cond.fieldLink RX10 138 "ReelChange$House" "joins" "LReelChange$Table;", Cond.fieldLink RX10 366 "ReelChange$State" "mended" "I", Cond.methodLink RX10 369 yJ6_bitCount_0f7a4, Cond.static yJ6_bitCount_0f7a4, Cond.initialized RJ6, Cond.code yJ6_bitCount_0f7a4 cJ6_bitCount_0f7a4 1 (some .int), Cond.fieldLink RX10 188 "ReelChange$House" "signs" "LReelChange$Table;", Cond.fieldLink RX10 372 "ReelChange$Kept" "acts" "I", Cond.fieldLink RX10 375 "ReelChange$Kept" "imaged" "I", Cond.methodLink RX10 287 yX3_number]
theorem gU15_ : GoodIn lw_tbl wU15 := goodIn_r _ [1535, 1546, 1548, 58, 1549, 741, 698, 699, 700, 1039, 1040, 1041, 248, 212, 251, 224, 1299, 1037, 143, 1038, 263, 354, 357, 1130] (by decide +kernel) (by decide +kernel)
def wU16 : List Cond := [Cond.instanceMethod yX3_number, Cond.selects RX3 yX3_number yX3_number, Cond.code yX3_number cX3_number 2 (some .int), Cond.classLink RL 8 RX10, Cond.instantiable RX10 10, Cond.methodLink RL 15 yX10_init, Cond.instanceMethod yX10_init, Cond.code yX10_init cX10_init 1 none, Cond.classLink RL 16 RX11, Cond.instantiable RX11 43, Cond.methodLink RL 18 yX11_init, Cond.instanceMethod yX11_init, Cond.code yX11_init cX11_init 1 none, Cond.methodLink RL 19 yX10_feed, Cond.instanceMethod yX10_feed, Cond.selects RX10 yX10_feed yX10_feed, Cond.code yX10_feed cX10_feed 6 (some .int), Cond.methodLink RL 23 yX11_feed, Cond.instanceMethod yX11_feed, Cond.selects RX11 yX11_feed yX11_feed, Cond.code yX11_feed cX11_feed 8 (some .int), Cond.methodLink RL 24 yX10_house, Cond.instanceMethod yX10_house, Cond.selects RX10 yX10_house yX10_house]
theorem gU16_ : GoodIn lw_tbl wU16 := goodIn_r _ [738, 739, 740, 148, 149, 150, 151, 152, 1373, 1374, 1375, 1376, 1377, 510, 511, 512, 513, 1513, 1514, 1515, 1516, 518, 519, 520] (by decide +kernel) (by decide +kernel)
def wU17 : List Cond := [Cond.code yX10_house cX10_house 2 (some .int), Cond.methodLink RL 27 yX11_house, Cond.instanceMethod yX11_house, Cond.selects RX11 yX11_house yX11_house, Cond.code yX11_house cX11_house 3 (some .int), Cond.methodLink RL 28 yX10_fault, Cond.instanceMethod yX10_fault, Cond.selects RX10 yX10_fault yX10_fault, Cond.code yX10_fault cX10_fault 1 (some .int), Cond.methodLink RL 32 yX11_fault, Cond.instanceMethod yX11_fault, Cond.selects RX11 yX11_fault yX11_fault, Cond.code yX11_fault cX11_fault 1 (some .int), Cond.methodLink RL 33 yX10_where, Cond.instanceMethod yX10_where, Cond.selects RX10 yX10_where yX10_where, Cond.code yX10_where cX10_where 1 (some .int), Cond.methodLink RL 36 yX11_where, Cond.instanceMethod yX11_where, Cond.selects RX11 yX11_where yX11_where, Cond.code yX11_where cX11_where 1 (some .int), Cond.methodLink RL 37 yX10_reel, Cond.instanceMethod yX10_reel, Cond.selects RX10 yX10_reel yX10_reel]
theorem gU17_ : GoodIn lw_tbl wU17 := goodIn_r _ [521, 1517, 1518, 1519, 1520, 787, 788, 789, 790, 1696, 1697, 1698, 1699, 791, 792, 793, 794, 1700, 1701, 1702, 1703, 795, 796, 797] (by decide +kernel) (by decide +kernel)
def wU18 : List Cond := [Cond.code yX10_reel cX10_reel 3 (some .int), Cond.methodLink RL 41 yX11_reel, Cond.instanceMethod yX11_reel, Cond.selects RX11 yX11_reel yX11_reel, Cond.code yX11_reel cX11_reel 3 (some .int), Cond.methodLink RL 42 yX10_mark, Cond.instanceMethod yX10_mark, Cond.selects RX10 yX10_mark yX10_mark, Cond.code yX10_mark cX10_mark 3 (some .int), Cond.methodLink RL 45 yX11_mark, Cond.instanceMethod yX11_mark, Cond.selects RX11 yX11_mark yX11_mark, Cond.code yX11_mark cX11_mark 3 (some .int), Cond.methodLink RL 46 yX10_shows, Cond.instanceMethod yX10_shows, Cond.selects RX10 yX10_shows yX10_shows, Cond.code yX10_shows cX10_shows 2 (some .int), Cond.methodLink RL 49 yX11_shows, Cond.instanceMethod yX11_shows, Cond.selects RX11 yX11_shows yX11_shows, Cond.code yX11_shows cX11_shows 2 (some .int), Cond.methodLink RL 50 yX10_thread, Cond.instanceMethod yX10_thread, Cond.selects RX10 yX10_thread yX10_thread]
theorem gU18_ : GoodIn lw_tbl wU18 := goodIn_r _ [798, 1704, 1705, 1706, 1707, 818, 819, 820, 821, 1731, 1732, 1733, 1734, 823, 824, 825, 826, 1739, 1740, 1741, 1742, 831, 832, 833] (by decide +kernel) (by decide +kernel)
def wU19 : List Cond := [Cond.code yX10_thread cX10_thread 2 (some .int), Cond.methodLink RL 53 yX11_thread, Cond.instanceMethod yX11_thread, Cond.selects RX11 yX11_thread yX11_thread, Cond.code yX11_thread cX11_thread 2 (some .int), Cond.methodLink RL 54 yX10_believes, Cond.instanceMethod yX10_believes, Cond.selects RX10 yX10_believes yX10_believes, Cond.code yX10_believes cX10_believes 3 (some .int), Cond.methodLink RL 57 yX11_believes, Cond.instanceMethod yX11_believes, Cond.selects RX11 yX11_believes yX11_believes, Cond.code yX11_believes cX11_believes 3 (some .int), Cond.methodLink RL 58 yX10_starts, Cond.instanceMethod yX10_starts, Cond.selects RX10 yX10_starts yX10_starts, Cond.code yX10_starts cX10_starts 3 (some .int), Cond.methodLink RL 61 yX11_starts, Cond.instanceMethod yX11_starts, Cond.selects RX11 yX11_starts yX11_starts, Cond.code yX11_starts cX11_starts 3 (some .int), Cond.methodLink RL 62 yX10_changes, Cond.instanceMethod yX10_changes, Cond.selects RX10 yX10_changes yX10_changes]
theorem gU19_ : GoodIn lw_tbl wU19 := goodIn_r _ [834, 1751, 1752, 1753, 1754, 835, 836, 837, 838, 1755, 1756, 1757, 1758, 896, 897, 898, 899, 1797, 1798, 1799, 1800, 900, 901, 902] (by decide +kernel) (by decide +kernel)
def wU20 : List Cond := [Cond.code yX10_changes cX10_changes 3 (some .int), Cond.methodLink RL 65 yX11_changes, Cond.instanceMethod yX11_changes, Cond.selects RX11 yX11_changes yX11_changes, Cond.code yX11_changes cX11_changes 3 (some .int), Cond.methodLink RL 66 yX10_lost, Cond.instanceMethod yX10_lost, Cond.selects RX10 yX10_lost yX10_lost, Cond.code yX10_lost cX10_lost 3 (some .int), Cond.methodLink RL 69 yX11_lost, Cond.instanceMethod yX11_lost, Cond.selects RX11 yX11_lost yX11_lost, Cond.code yX11_lost cX11_lost 3 (some .int), Cond.methodLink RL 70 yX10_black, Cond.instanceMethod yX10_black, Cond.selects RX10 yX10_black yX10_black, Cond.code yX10_black cX10_black 3 (some .int), Cond.methodLink RL 73 yX11_black, Cond.instanceMethod yX11_black, Cond.selects RX11 yX11_black yX11_black, Cond.code yX11_black cX11_black 3 (some .int), Cond.methodLink RL 74 yX10_tail, Cond.instanceMethod yX10_tail, Cond.selects RX10 yX10_tail yX10_tail]
theorem gU20_ : GoodIn lw_tbl wU20 := goodIn_r _ [903, 1801, 1802, 1803, 1804, 904, 905, 906, 907, 1805, 1806, 1807, 1808, 908, 909, 910, 911, 1809, 1810, 1811, 1812, 912, 913, 914] (by decide +kernel) (by decide +kernel)
def wU21 : List Cond := [Cond.code yX10_tail cX10_tail 3 (some .int), Cond.methodLink RL 77 yX11_tail, Cond.instanceMethod yX11_tail, Cond.selects RX11 yX11_tail yX11_tail, Cond.code yX11_tail cX11_tail 3 (some .int), Cond.methodLink RL 78 yX10_begins, Cond.instanceMethod yX10_begins, Cond.selects RX10 yX10_begins yX10_begins, Cond.code yX10_begins cX10_begins 3 (some .int), Cond.methodLink RL 81 yX11_begins, Cond.instanceMethod yX11_begins, Cond.selects RX11 yX11_begins yX11_begins, Cond.code yX11_begins cX11_begins 3 (some .int), Cond.methodLink RL 82 yX10_length, Cond.instanceMethod yX10_length, Cond.selects RX10 yX10_length yX10_length, Cond.code yX10_length cX10_length 2 (some .int), Cond.methodLink RL 85 yX11_length, Cond.instanceMethod yX11_length, Cond.selects RX11 yX11_length yX11_length, Cond.code yX11_length cX11_length 2 (some .int), Cond.methodLink RL 86 yX10_all, Cond.instanceMethod yX10_all, Cond.selects RX10 yX10_all yX10_all]
theorem gU21_ : GoodIn lw_tbl wU21 := goodIn_r _ [915, 1813, 1814, 1815, 1816, 916, 917, 918, 919, 1821, 1822, 1823, 1824, 920, 921, 922, 923, 1825, 1826, 1827, 1828, 928, 929, 930] (by decide +kernel) (by decide +kernel)
def wU22 : List Cond := [Cond.code yX10_all cX10_all 3 (some .int), Cond.methodLink RL 89 yX11_all, Cond.instanceMethod yX11_all, Cond.selects RX11 yX11_all yX11_all, Cond.code yX11_all cX11_all 3 (some .int), Cond.methodLink RL 90 yX10_worst, Cond.instanceMethod yX10_worst, Cond.selects RX10 yX10_worst yX10_worst, Cond.code yX10_worst cX10_worst 2 (some .int), Cond.methodLink RL 93 yX11_worst, Cond.instanceMethod yX11_worst, Cond.selects RX11 yX11_worst yX11_worst, Cond.code yX11_worst cX11_worst 6 (some .int), Cond.methodLink RL 94 yX10_exact, Cond.instanceMethod yX10_exact, Cond.selects RX10 yX10_exact yX10_exact, Cond.code yX10_exact cX10_exact 3 (some .int), Cond.methodLink RL 97 yX11_exact, Cond.instanceMethod yX11_exact, Cond.selects RX11 yX11_exact yX11_exact, Cond.code yX11_exact cX11_exact 3 (some .int), Cond.methodLink RL 98 yX10_signs, Cond.instanceMethod yX10_signs, Cond.selects RX10 yX10_signs yX10_signs]
theorem gU22_ : GoodIn lw_tbl wU22 := goodIn_r _ [931, 1829, 1830, 1831, 1832, 936, 937, 938, 939, 1837, 1838, 1839, 1840, 944, 945, 946, 947, 1841, 1842, 1843, 1844, 952, 953, 954] (by decide +kernel) (by decide +kernel)
def wU23 : List Cond := [Cond.code yX10_signs cX10_signs 2 (some .int), Cond.methodLink RL 101 yX11_signs, Cond.instanceMethod yX11_signs, Cond.selects RX11 yX11_signs yX11_signs, Cond.code yX11_signs cX11_signs 2 (some .int), Cond.methodLink RL 102 yX10_fits, Cond.instanceMethod yX10_fits, Cond.selects RX10 yX10_fits yX10_fits, Cond.code yX10_fits cX10_fits 4 (some .int), Cond.methodLink RL 105 yX11_fits, Cond.instanceMethod yX11_fits, Cond.selects RX11 yX11_fits yX11_fits, Cond.code yX11_fits cX11_fits 3 (some .int), Cond.methodLink RL 106 yX10_bestSlip, Cond.instanceMethod yX10_bestSlip, Cond.selects RX10 yX10_bestSlip yX10_bestSlip, Cond.code yX10_bestSlip cX10_bestSlip 2 (some .int), Cond.methodLink RL 109 yX11_bestSlip, Cond.instanceMethod yX11_bestSlip, Cond.selects RX11 yX11_bestSlip yX11_bestSlip, Cond.code yX11_bestSlip cX11_bestSlip 2 (some .int), Cond.methodLink RL 110 yX10_bySlip, Cond.instanceMethod yX10_bySlip, Cond.selects RX10 yX10_bySlip yX10_bySlip]
theorem gU23_ : GoodIn lw_tbl wU23 := goodIn_r _ [955, 1936, 1937, 1938, 1939, 960, 961, 962, 963, 1944, 1945, 1946, 1947, 968, 969, 970, 971, 1948, 1949, 1950, 1951, 982, 983, 984] (by decide +kernel) (by decide +kernel)
def wU24 : List Cond := [Cond.code yX10_bySlip cX10_bySlip 2 (some .int), Cond.methodLink RL 113 yX11_bySlip, Cond.instanceMethod yX11_bySlip, Cond.selects RX11 yX11_bySlip yX11_bySlip, Cond.code yX11_bySlip cX11_bySlip 2 (some .int), Cond.methodLink RL 114 yX10_needs, Cond.instanceMethod yX10_needs, Cond.selects RX10 yX10_needs yX10_needs, Cond.code yX10_needs cX10_needs 3 (some .int), Cond.methodLink RL 117 yX11_needs, Cond.instanceMethod yX11_needs, Cond.selects RX11 yX11_needs yX11_needs, Cond.code yX11_needs cX11_needs 3 (some .int), Cond.methodLink RL 118 yX10_dies, Cond.instanceMethod yX10_dies, Cond.selects RX10 yX10_dies yX10_dies, Cond.code yX10_dies cX10_dies 3 (some .int), Cond.methodLink RL 121 yX11_dies, Cond.instanceMethod yX11_dies, Cond.selects RX11 yX11_dies yX11_dies, Cond.code yX11_dies cX11_dies 3 (some .int), Cond.methodLink RL 122 yX10_firstDies, Cond.instanceMethod yX10_firstDies, Cond.selects RX10 yX10_firstDies yX10_firstDies]
theorem gU24_ : GoodIn lw_tbl wU24 := goodIn_r _ [985, 1956, 1957, 1958, 1959, 986, 987, 988, 989, 1845, 1846, 1847, 1848, 994, 995, 996, 997, 1853, 1854, 1855, 1856, 1010, 1011, 1012] (by decide +kernel) (by decide +kernel)
def wU25 : List Cond := [Cond.code yX10_firstDies cX10_firstDies 2 (some .int), Cond.methodLink RL 125 yX11_firstDies, Cond.instanceMethod yX11_firstDies, Cond.selects RX11 yX11_firstDies yX11_firstDies, Cond.code yX11_firstDies cX11_firstDies 3 (some .int), Cond.methodLink RL 126 yX10_free, Cond.instanceMethod yX10_free, Cond.selects RX10 yX10_free yX10_free, Cond.code yX10_free cX10_free 3 (some .int), Cond.methodLink RL 129 yX11_free, Cond.instanceMethod yX11_free, Cond.selects RX11 yX11_free yX11_free, Cond.code yX11_free cX11_free 3 (some .int), Cond.methodLink RL 130 yX10_arc, Cond.instanceMethod yX10_arc, Cond.selects RX10 yX10_arc yX10_arc, Cond.code yX10_arc cX10_arc 3 (some .int), Cond.methodLink RL 133 yX11_arc, Cond.instanceMethod yX11_arc, Cond.selects RX11 yX11_arc yX11_arc, Cond.code yX11_arc cX11_arc 3 (some .int), Cond.methodLink RL 134 yX10_never, Cond.instanceMethod yX10_never, Cond.selects RX10 yX10_never yX10_never]
theorem gU25_ : GoodIn lw_tbl wU25 := goodIn_r _ [1013, 1865, 1866, 1867, 1868, 1018, 1019, 1020, 1021, 1873, 1874, 1875, 1876, 1023, 1024, 1025, 1026, 1869, 1870, 1871, 1872, 1027, 1028, 1029] (by decide +kernel) (by decide +kernel)
def wU26 : List Cond := [Cond.code yX10_never cX10_never 2 (some .int), Cond.methodLink RL 137 yX11_never, Cond.instanceMethod yX11_never, Cond.selects RX11 yX11_never yX11_never, Cond.code yX11_never cX11_never 4 (some .int), Cond.methodLink RL 138 yX10_truly, Cond.instanceMethod yX10_truly, Cond.selects RX10 yX10_truly yX10_truly, Cond.code yX10_truly cX10_truly 4 (some .long), Cond.methodLink RL 142 yX11_truly, Cond.instanceMethod yX11_truly, Cond.selects RX11 yX11_truly yX11_truly, Cond.code yX11_truly cX11_truly 4 (some .long), Cond.methodLink RL 143 yX10_likeliest, Cond.instanceMethod yX10_likeliest, Cond.selects RX10 yX10_likeliest yX10_likeliest, Cond.code yX10_likeliest cX10_likeliest 2 (some .int), Cond.methodLink RL 146 yX11_likeliest, Cond.instanceMethod yX11_likeliest, Cond.selects RX11 yX11_likeliest yX11_likeliest, Cond.code yX11_likeliest cX11_likeliest 4 (some .int), Cond.methodLink RL 147 yX10_who, Cond.instanceMethod yX10_who, Cond.selects RX10 yX10_who yX10_who]
theorem gU26_ : GoodIn lw_tbl wU26 := goodIn_r _ [1030, 1877, 1878, 1879, 1880, 1043, 1044, 1045, 1046, 1884, 1885, 1886, 1887, 1079, 1080, 1081, 1082, 1903, 1904, 1905, 1906, 1087, 1088, 1089] (by decide +kernel) (by decide +kernel)
def wU27 : List Cond := [Cond.code yX10_who cX10_who 3 (some .int), Cond.methodLink RL 150 yX11_who, Cond.instanceMethod yX11_who, Cond.selects RX11 yX11_who yX11_who, Cond.code yX11_who cX11_who 2 (some .int), Cond.methodLink RL 151 yX10_far, Cond.instanceMethod yX10_far, Cond.selects RX10 yX10_far yX10_far, Cond.code yX10_far cX10_far 3 (some .int), Cond.methodLink RL 154 yX11_far, Cond.instanceMethod yX11_far, Cond.selects RX11 yX11_far yX11_far, Cond.code yX11_far cX11_far 2 (some .int), Cond.methodLink RL 155 yX10_missing, Cond.instanceMethod yX10_missing, Cond.selects RX10 yX10_missing yX10_missing, Cond.code yX10_missing cX10_missing 4 (some .int), Cond.methodLink RL 159 yX11_missing, Cond.instanceMethod yX11_missing, Cond.selects RX11 yX11_missing yX11_missing, Cond.code yX11_missing cX11_missing 5 (some .int), Cond.methodLink RL 160 yX10_words, Cond.instanceMethod yX10_words, Cond.selects RX10 yX10_words yX10_words]
theorem gU27_ : GoodIn lw_tbl wU27 := goodIn_r _ [1090, 1960, 1961, 1962, 1963, 1100, 1101, 1102, 1103, 1972, 1973, 1974, 1975, 1104, 1105, 1106, 1107, 1907, 1908, 1909, 1910, 1113, 1114, 1115] (by decide +kernel) (by decide +kernel)
def wU28 : List Cond := [Cond.code yX10_words cX10_words 4 (some .int), Cond.methodLink RL 163 yX11_words, Cond.instanceMethod yX11_words, Cond.selects RX11 yX11_words yX11_words, Cond.code yX11_words cX11_words 4 (some .int), Cond.methodLink RL 164 yX10_holds, Cond.instanceMethod yX10_holds, Cond.selects RX10 yX10_holds yX10_holds, Cond.code yX10_holds cX10_holds 4 (some .long), Cond.methodLink RL 167 yX11_holds, Cond.instanceMethod yX11_holds, Cond.selects RX11 yX11_holds yX11_holds, Cond.code yX11_holds cX11_holds 4 (some .long), Cond.methodLink RL 168 yX10_pays, Cond.instanceMethod yX10_pays, Cond.selects RX10 yX10_pays yX10_pays, Cond.code yX10_pays cX10_pays 5 (some .int), Cond.methodLink RL 171 yX11_pays, Cond.instanceMethod yX11_pays, Cond.selects RX11 yX11_pays yX11_pays, Cond.code yX11_pays cX11_pays 5 (some .int), Cond.methodLink RL 172 yX10_wears, Cond.instanceMethod yX10_wears, Cond.selects RX10 yX10_wears yX10_wears]
theorem gU28_ : GoodIn lw_tbl wU28 := goodIn_r _ [1116, 1911, 1912, 1913, 1914, 1117, 1118, 1119, 1120, 1915, 1916, 1917, 1918, 1126, 1127, 1128, 1129, 1926, 1927, 1928, 1929, 1132, 1133, 1134] (by decide +kernel) (by decide +kernel)
def wU29 : List Cond := [Cond.code yX10_wears cX10_wears 6 (some .long), Cond.methodLink RL 175 yX11_wears, Cond.instanceMethod yX11_wears, Cond.selects RX11 yX11_wears yX11_wears, Cond.code yX11_wears cX11_wears 7 (some .long), Cond.methodLink RL 176 yX10_apart, Cond.instanceMethod yX10_apart, Cond.selects RX10 yX10_apart yX10_apart, Cond.code yX10_apart cX10_apart 4 (some .int), Cond.methodLink RL 179 yX11_apart, Cond.instanceMethod yX11_apart, Cond.selects RX11 yX11_apart yX11_apart, Cond.code yX11_apart cX11_apart 4 (some .int), Cond.methodLink RL 180 yX10_waits, Cond.instanceMethod yX10_waits, Cond.selects RX10 yX10_waits yX10_waits, Cond.code yX10_waits cX10_waits 5 (some .int), Cond.methodLink RL 184 yX11_waits, Cond.instanceMethod yX11_waits, Cond.selects RX11 yX11_waits yX11_waits, Cond.code yX11_waits cX11_waits 9 (some .int), Cond.methodLink RL 185 yX10_boys, Cond.instanceMethod yX10_boys, Cond.selects RX10 yX10_boys yX10_boys]
theorem gU29_ : GoodIn lw_tbl wU29 := goodIn_r _ [1135, 1931, 1932, 1933, 1934, 1137, 1138, 1139, 1140, 1976, 1977, 1978, 1979, 1164, 1165, 1166, 1167, 1996, 1997, 1998, 1999, 1168, 1169, 1170] (by decide +kernel) (by decide +kernel)
def wU30 : List Cond := [Cond.code yX10_boys cX10_boys 5 (some .int), Cond.methodLink RL 188 yX11_boys, Cond.instanceMethod yX11_boys, Cond.selects RX11 yX11_boys yX11_boys, Cond.code yX11_boys cX11_boys 5 (some .int), Cond.methodLink RL 189 yX10_well, Cond.instanceMethod yX10_well, Cond.selects RX10 yX10_well yX10_well, Cond.code yX10_well cX10_well 2 (some .long), Cond.methodLink RL 193 yX11_well, Cond.instanceMethod yX11_well, Cond.selects RX11 yX11_well yX11_well, Cond.code yX11_well cX11_well 2 (some .long), Cond.methodLink RL 194 yX10_wrong, Cond.instanceMethod yX10_wrong, Cond.selects RX10 yX10_wrong yX10_wrong, Cond.code yX10_wrong cX10_wrong 1 (some .int), Cond.methodLink RL 197 yX11_wrong, Cond.instanceMethod yX11_wrong, Cond.selects RX11 yX11_wrong yX11_wrong, Cond.code yX11_wrong cX11_wrong 4 (some .int), Cond.methodLink RL 198 yX10_exchanges, Cond.instanceMethod yX10_exchanges, Cond.selects RX10 yX10_exchanges yX10_exchanges]
theorem gU30_ : GoodIn lw_tbl wU30 := goodIn_r _ [1171, 1992, 1993, 1994, 1995, 1172, 1173, 1174, 1175, 2000, 2001, 2002, 2003, 1176, 1177, 1178, 1179, 2004, 2005, 2006, 2007, 1185, 1186, 1187] (by decide +kernel) (by decide +kernel)
def wU31 : List Cond := [Cond.code yX10_exchanges cX10_exchanges 1 (some .int), Cond.methodLink RL 201 yX11_exchanges, Cond.instanceMethod yX11_exchanges, Cond.selects RX11 yX11_exchanges yX11_exchanges, Cond.code yX11_exchanges cX11_exchanges 5 (some .int), Cond.methodLink RL 202 yX10_dark, Cond.instanceMethod yX10_dark, Cond.selects RX10 yX10_dark yX10_dark, Cond.code yX10_dark cX10_dark 3 (some .int), Cond.methodLink RL 205 yX11_dark, Cond.instanceMethod yX11_dark, Cond.selects RX11 yX11_dark yX11_dark, Cond.code yX11_dark cX11_dark 3 (some .int), Cond.methodLink RL 206 yX10_bestMan, Cond.instanceMethod yX10_bestMan, Cond.selects RX10 yX10_bestMan yX10_bestMan, Cond.code yX10_bestMan cX10_bestMan 7 (some .int), Cond.methodLink RL 209 yX11_bestMan, Cond.instanceMethod yX11_bestMan, Cond.selects RX11 yX11_bestMan yX11_bestMan, Cond.code yX11_bestMan cX11_bestMan 8 (some .int), Cond.methodLink RL 210 yX10_threads, Cond.instanceMethod yX10_threads, Cond.selects RX10 yX10_threads yX10_threads]
theorem gU31_ : GoodIn lw_tbl wU31 := goodIn_r _ [1188, 2008, 2009, 2010, 2011, 1211, 1212, 1213, 1214, 2020, 2021, 2022, 2023, 1220, 1221, 1222, 1223, 2034, 2035, 2036, 2037, 1228, 1229, 1230] (by decide +kernel) (by decide +kernel)
def wU32 : List Cond := [Cond.code yX10_threads cX10_threads 3 (some .boolean), Cond.methodLink RL 214 yX11_threads, Cond.instanceMethod yX11_threads, Cond.selects RX11 yX11_threads yX11_threads, Cond.code yX11_threads cX11_threads 3 (some .boolean), Cond.methodLink RL 215 yX10_trim, Cond.instanceMethod yX10_trim, Cond.selects RX10 yX10_trim yX10_trim, Cond.code yX10_trim cX10_trim 3 (some .boolean), Cond.methodLink RL 219 yX11_trim, Cond.instanceMethod yX11_trim, Cond.selects RX11 yX11_trim yX11_trim, Cond.code yX11_trim cX11_trim 3 (some .boolean), Cond.methodLink RL 220 yX10_mend, Cond.instanceMethod yX10_mend, Cond.selects RX10 yX10_mend yX10_mend, Cond.code yX10_mend cX10_mend 3 (some .int), Cond.methodLink RL 223 yX11_mend, Cond.instanceMethod yX11_mend, Cond.selects RX11 yX11_mend yX11_mend, Cond.code yX11_mend cX11_mend 6 (some .int), Cond.methodLink RL 224 yX10_undo, Cond.instanceMethod yX10_undo, Cond.selects RX10 yX10_undo yX10_undo]
theorem gU32_ : GoodIn lw_tbl wU32 := goodIn_r _ [1231, 2039, 2040, 2041, 2042, 1250, 1251, 1252, 1253, 2051, 2052, 2053, 2054, 1254, 1255, 1256, 1257, 2055, 2056, 2057, 2058, 1271, 1272, 1273] (by decide +kernel) (by decide +kernel)
def wU33 : List Cond := [Cond.code yX10_undo cX10_undo 1 (some .boolean), Cond.methodLink RL 228 yX11_undo, Cond.instanceMethod yX11_undo, Cond.selects RX11 yX11_undo yX11_undo, Cond.code yX11_undo cX11_undo 1 (some .boolean), Cond.methodLink RL 229 yX10_image, Cond.instanceMethod yX10_image, Cond.selects RX10 yX10_image yX10_image, Cond.code yX10_image cX10_image 2 (some .int), Cond.methodLink RL 232 yX11_image, Cond.instanceMethod yX11_image, Cond.selects RX11 yX11_image yX11_image, Cond.code yX11_image cX11_image 1 (some .int), Cond.methodLink RL 233 yX10_back, Cond.instanceMethod yX10_back, Cond.selects RX10 yX10_back yX10_back, Cond.code yX10_back cX10_back 2 (some .boolean), Cond.methodLink RL 237 yX11_back, Cond.instanceMethod yX11_back, Cond.selects RX11 yX11_back yX11_back, Cond.code yX11_back cX11_back 2 (some .boolean), Cond.methodLink RL 247 yX10_size, Cond.instanceMethod yX10_size, Cond.selects RX10 yX10_size yX10_size]
theorem gU33_ : GoodIn lw_tbl wU33 := goodIn_r _ [1274, 2062, 2063, 2064, 2065, 1279, 1280, 1281, 1282, 2066, 2067, 2068, 2069, 1287, 1288, 1289, 1290, 2070, 2071, 2072, 2073, 1295, 1296, 1297] (by decide +kernel) (by decide +kernel)
def wU34 : List Cond := [Cond.code yX10_size cX10_size 2 (some .int), Cond.methodLink RL 250 yX11_size, Cond.instanceMethod yX11_size, Cond.selects RX11 yX11_size yX11_size, Cond.code yX11_size cX11_size 2 (some .int), Cond.methodLink RL 251 yX10_trouble, Cond.instanceMethod yX10_trouble, Cond.selects RX10 yX10_trouble yX10_trouble, Cond.code yX10_trouble cX10_trouble 1 (some .int), Cond.methodLink RL 254 yX11_trouble, Cond.instanceMethod yX11_trouble, Cond.selects RX11 yX11_trouble yX11_trouble, Cond.code yX11_trouble cX11_trouble 1 (some .int), Cond.classLink RX10 363 "java/util/NoSuchElementException", Cond.initialized "java/util/NoSuchElementException", Cond.classLink RL 13 "java/util/NoSuchElementException", Cond.methodLink RL 7 yX10_led, Cond.instanceMethod yX10_led, Cond.selects RX10 yX10_led yX10_led, Cond.code yX10_led cX10_led 4 (some .int), Cond.methodLink RL 243 yX11_led, Cond.instanceMethod yX11_led, Cond.selects RX11 yX11_led yX11_led, Cond.code yX11_led cX11_led 4 (some .int)]
theorem gU34_ : GoodIn lw_tbl wU34 := goodIn_r _ [1298, 2078, 2079, 2080, 2081, 1300, 1301, 1302, 1303, 2082, 2083, 2084, 2085, 1312, 147, 1307, 1308, 1309, 1310, 1311, 2074, 2075, 2076, 2077] (by decide +kernel) (by decide +kernel)
def wU35 : List Cond := [Cond.methodLink RL 244 yX11_thrown, Cond.instanceMethod yX11_thrown, Cond.selects RX11 yX11_thrown yX11_thrown, Cond.code yX11_thrown cX11_thrown 1 (some .int), Cond.methodLink RL 238 yL_led, Cond.static yL_led, Cond.initialized RL, Cond.codeWith yL_led cL_led 4 (some .int) [(0, 9, 12, 13)]]
theorem gU35_ : GoodIn lw_tbl wU35 := goodIn_r _ [1509, 1510, 1511, 1512, 1304, 1305, 124, 1306] (by decide +kernel) (by decide +kernel)
theorem gX0_ : GoodIn lw_tbl wsX00 := goodIn_r _ [421, 423] (by decide +kernel) (by decide +kernel)
theorem gX1_ : GoodIn lw_tbl wsX10 := goodIn_r _ [457, 459, 461] (by decide +kernel) (by decide +kernel)
theorem gX2_ : GoodIn lw_tbl wsX20 := goodIn_r _ [474, 476] (by decide +kernel) (by decide +kernel)
theorem gX3_ : GoodIn lw_tbl wsX30 := goodIn_r _ [267, 269, 271, 273, 275, 277, 279, 281] (by decide +kernel) (by decide +kernel)
theorem gX4_ : GoodIn lw_tbl wsX40 := goodIn_r _ [358, 360, 362, 364, 366] (by decide +kernel) (by decide +kernel)
theorem gX5_ : GoodIn lw_tbl wsX50 := goodIn_r _ [390, 392, 394, 396, 398, 400, 402, 404, 406] (by decide +kernel) (by decide +kernel)
theorem gX6_ : GoodIn lw_tbl wsX60 := goodIn_r _ [439, 441, 443] (by decide +kernel) (by decide +kernel)
theorem gX7_ : GoodIn lw_tbl wsX70 := goodIn_r _ [227, 229, 231, 233, 235, 237] (by decide +kernel) (by decide +kernel)
theorem gX8_ : GoodIn lw_tbl wsX80 := goodIn_r _ [196, 198, 200, 202] (by decide +kernel) (by decide +kernel)
theorem gX9_ : GoodIn lw_tbl wsX90 := goodIn_r _ [305, 307, 309, 311, 313, 315, 317, 319, 321, 323, 325, 327, 329, 331, 333] (by decide +kernel) (by decide +kernel)
theorem gX10_ : GoodIn lw_tbl wsX100 := goodIn_r _ [489, 491, 493, 495, 497, 499, 501, 503, 505, 507] (by decide +kernel) (by decide +kernel)
theorem gX11_ : GoodIn lw_tbl wsX110 := goodIn_r _ [1422, 1424, 1426, 1428, 1430, 1432, 1434, 1436, 1438, 1440, 1442, 1444, 1446, 1448, 1450, 1452, 1454, 1456, 1458, 1460, 1462, 1464, 1466, 1468, 1470, 1472, 1474, 1476, 1478, 1480, 1482, 1484, 1486, 1488, 1490, 1492, 1494, 1496, 1498, 1500, 1502, 1504, 1506] (by decide +kernel) (by decide +kernel)
def wsL_law0 : List Cond := wU0 ++ (wU1 ++ (wU2 ++ (wU3 ++ (wU4 ++ (wU5 ++ (wU6 ++ (wU7 ++ (wU8 ++ (wU9 ++ (wU10 ++ (wU11 ++ (wU12 ++ (wU13 ++ (wU14 ++ (wU15 ++ (wU16 ++ (wU17 ++ (wU18 ++ (wU19 ++ (wU20 ++ (wU21 ++ (wU22 ++ (wU23 ++ (wU24 ++ (wU25 ++ (wU26 ++ (wU27 ++ (wU28 ++ (wU29 ++ (wU30 ++ (wU31 ++ (wU32 ++ (wU33 ++ (wU34 ++ (wU35 ++ (wsX00 ++ (wsX10 ++ (wsX20 ++ (wsX30 ++ (wsX40 ++ (wsX50 ++ (wsX60 ++ (wsX70 ++ (wsX80 ++ (wsX90 ++ (wsX100 ++ (wsX110)))))))))))))))))))))))))))))))))))))))))))))))
theorem gdL : GoodIn lw_tbl wsL_law0 := goodIn_app gU0_ (goodIn_app gU1_ (goodIn_app gU2_ (goodIn_app gU3_ (goodIn_app gU4_ (goodIn_app gU5_ (goodIn_app gU6_ (goodIn_app gU7_ (goodIn_app gU8_ (goodIn_app gU9_ (goodIn_app gU10_ (goodIn_app gU11_ (goodIn_app gU12_ (goodIn_app gU13_ (goodIn_app gU14_ (goodIn_app gU15_ (goodIn_app gU16_ (goodIn_app gU17_ (goodIn_app gU18_ (goodIn_app gU19_ (goodIn_app gU20_ (goodIn_app gU21_ (goodIn_app gU22_ (goodIn_app gU23_ (goodIn_app gU24_ (goodIn_app gU25_ (goodIn_app gU26_ (goodIn_app gU27_ (goodIn_app gU28_ (goodIn_app gU29_ (goodIn_app gU30_ (goodIn_app gU31_ (goodIn_app gU32_ (goodIn_app gU33_ (goodIn_app gU34_ (goodIn_app gU35_ (goodIn_app gX0_ (goodIn_app gX1_ (goodIn_app gX2_ (goodIn_app gX3_ (goodIn_app gX4_ (goodIn_app gX5_ (goodIn_app gX6_ (goodIn_app gX7_ (goodIn_app gX8_ (goodIn_app gX9_ (goodIn_app gX10_ (gX11_)))))))))))))))))))))))))))))))))))))))))))))))
theorem wsL_in : ∀ w ∈ wsL_law0, w ∈ lw_tbl := fun w h => (gdL w h).1
theorem goodL : ∀ w ∈ wsL_law0, (w.onTables && w.keeps) = true ∨ ∃ ty, w = .arrayClass ty := fun w h => (gdL w h).2
theorem mL0 : ∀ w ∈ wU0, w ∈ wsL_law0 := fun _ h => List.mem_append_left _ h
theorem mL1 : ∀ w ∈ wU1, w ∈ wsL_law0 := fun _ h => List.mem_append_right _ (List.mem_append_left _ h)
theorem mL2 : ∀ w ∈ wU2, w ∈ wsL_law0 := fun _ h => List.mem_append_right _ (List.mem_append_right _ (List.mem_append_left _ h))
theorem mL3 : ∀ w ∈ wU3, w ∈ wsL_law0 := fun _ h => List.mem_append_right _ (List.mem_append_right _ (List.mem_append_right _ (List.mem_append_left _ h)))
theorem mL4 : ∀ w ∈ wU4, w ∈ wsL_law0 := fun _ h => List.mem_append_right _ (List.mem_append_right _ (List.mem_append_right _ (List.mem_append_right _ (List.mem_append_left _ h))))
theorem mL5 : ∀ w ∈ wU5, w ∈ wsL_law0 := fun _ h => List.mem_append_right _ (List.mem_append_right _ (List.mem_append_right _ (List.mem_append_right _ (List.mem_append_right _ (List.mem_append_left _ h)))))
theorem mL6 : ∀ w ∈ wU6, w ∈ wsL_law0 := fun _ h => List.mem_append_right _ (List.mem_append_right _ (List.mem_append_right _ (List.mem_append_right _ (List.mem_append_right _ (List.mem_append_right _ (List.mem_append_left _ h))))))
theorem mL7 : ∀ w ∈ wU7, w ∈ wsL_law0 := fun _ h => List.mem_append_right _ (List.mem_append_right _ (List.mem_append_right _ (List.mem_append_right _ (List.mem_append_right _ (List.mem_append_right _ (List.mem_append_right _ (List.mem_append_left _ h)))))))
theorem mL8 : ∀ w ∈ wU8, w ∈ wsL_law0 := fun _ h => List.mem_append_right _ (List.mem_append_right _ (List.mem_append_right _ (List.mem_append_right _ (List.mem_append_right _ (List.mem_append_right _ (List.mem_append_right _ (List.mem_append_right _ (List.mem_append_left _ h))))))))
theorem mL9 : ∀ w ∈ wU9, w ∈ wsL_law0 := fun _ h => List.mem_append_right _ (List.mem_append_right _ (List.mem_append_right _ (List.mem_append_right _ (List.mem_append_right _ (List.mem_append_right _ (List.mem_append_right _ (List.mem_append_right _ (List.mem_append_right _ (List.mem_append_left _ h)))))))))
theorem mL10 : ∀ w ∈ wU10, w ∈ wsL_law0 := fun _ h => List.mem_append_right _ (List.mem_append_right _ (List.mem_append_right _ (List.mem_append_right _ (List.mem_append_right _ (List.mem_append_right _ (List.mem_append_right _ (List.mem_append_right _ (List.mem_append_right _ (List.mem_append_right _ (List.mem_append_left _ h))))))))))
theorem mL11 : ∀ w ∈ wU11, w ∈ wsL_law0 := fun _ h => List.mem_append_right _ (List.mem_append_right _ (List.mem_append_right _ (List.mem_append_right _ (List.mem_append_right _ (List.mem_append_right _ (List.mem_append_right _ (List.mem_append_right _ (List.mem_append_right _ (List.mem_append_right _ (List.mem_append_right _ (List.mem_append_left _ h)))))))))))
theorem mL12 : ∀ w ∈ wU12, w ∈ wsL_law0 := fun _ h => List.mem_append_right _ (List.mem_append_right _ (List.mem_append_right _ (List.mem_append_right _ (List.mem_append_right _ (List.mem_append_right _ (List.mem_append_right _ (List.mem_append_right _ (List.mem_append_right _ (List.mem_append_right _ (List.mem_append_right _ (List.mem_append_right _ (List.mem_append_left _ h))))))))))))
theorem mL13 : ∀ w ∈ wU13, w ∈ wsL_law0 := fun _ h => List.mem_append_right _ (List.mem_append_right _ (List.mem_append_right _ (List.mem_append_right _ (List.mem_append_right _ (List.mem_append_right _ (List.mem_append_right _ (List.mem_append_right _ (List.mem_append_right _ (List.mem_append_right _ (List.mem_append_right _ (List.mem_append_right _ (List.mem_append_right _ (List.mem_append_left _ h)))))))))))))
theorem mL14 : ∀ w ∈ wU14, w ∈ wsL_law0 := fun _ h => List.mem_append_right _ (List.mem_append_right _ (List.mem_append_right _ (List.mem_append_right _ (List.mem_append_right _ (List.mem_append_right _ (List.mem_append_right _ (List.mem_append_right _ (List.mem_append_right _ (List.mem_append_right _ (List.mem_append_right _ (List.mem_append_right _ (List.mem_append_right _ (List.mem_append_right _ (List.mem_append_left _ h))))))))))))))
theorem mL15 : ∀ w ∈ wU15, w ∈ wsL_law0 := fun _ h => List.mem_append_right _ (List.mem_append_right _ (List.mem_append_right _ (List.mem_append_right _ (List.mem_append_right _ (List.mem_append_right _ (List.mem_append_right _ (List.mem_append_right _ (List.mem_append_right _ (List.mem_append_right _ (List.mem_append_right _ (List.mem_append_right _ (List.mem_append_right _ (List.mem_append_right _ (List.mem_append_right _ (List.mem_append_left _ h)))))))))))))))
theorem mL16 : ∀ w ∈ wU16, w ∈ wsL_law0 := fun _ h => List.mem_append_right _ (List.mem_append_right _ (List.mem_append_right _ (List.mem_append_right _ (List.mem_append_right _ (List.mem_append_right _ (List.mem_append_right _ (List.mem_append_right _ (List.mem_append_right _ (List.mem_append_right _ (List.mem_append_right _ (List.mem_append_right _ (List.mem_append_right _ (List.mem_append_right _ (List.mem_append_right _ (List.mem_append_right _ (List.mem_append_left _ h))))))))))))))))
theorem mL17 : ∀ w ∈ wU17, w ∈ wsL_law0 := fun _ h => List.mem_append_right _ (List.mem_append_right _ (List.mem_append_right _ (List.mem_append_right _ (List.mem_append_right _ (List.mem_append_right _ (List.mem_append_right _ (List.mem_append_right _ (List.mem_append_right _ (List.mem_append_right _ (List.mem_append_right _ (List.mem_append_right _ (List.mem_append_right _ (List.mem_append_right _ (List.mem_append_right _ (List.mem_append_right _ (List.mem_append_right _ (List.mem_append_left _ h)))))))))))))))))
theorem mL18 : ∀ w ∈ wU18, w ∈ wsL_law0 := fun _ h => List.mem_append_right _ (List.mem_append_right _ (List.mem_append_right _ (List.mem_append_right _ (List.mem_append_right _ (List.mem_append_right _ (List.mem_append_right _ (List.mem_append_right _ (List.mem_append_right _ (List.mem_append_right _ (List.mem_append_right _ (List.mem_append_right _ (List.mem_append_right _ (List.mem_append_right _ (List.mem_append_right _ (List.mem_append_right _ (List.mem_append_right _ (List.mem_append_right _ (List.mem_append_left _ h))))))))))))))))))
theorem mL19 : ∀ w ∈ wU19, w ∈ wsL_law0 := fun _ h => List.mem_append_right _ (List.mem_append_right _ (List.mem_append_right _ (List.mem_append_right _ (List.mem_append_right _ (List.mem_append_right _ (List.mem_append_right _ (List.mem_append_right _ (List.mem_append_right _ (List.mem_append_right _ (List.mem_append_right _ (List.mem_append_right _ (List.mem_append_right _ (List.mem_append_right _ (List.mem_append_right _ (List.mem_append_right _ (List.mem_append_right _ (List.mem_append_right _ (List.mem_append_right _ (List.mem_append_left _ h)))))))))))))))))))
theorem mL20 : ∀ w ∈ wU20, w ∈ wsL_law0 := fun _ h => List.mem_append_right _ (List.mem_append_right _ (List.mem_append_right _ (List.mem_append_right _ (List.mem_append_right _ (List.mem_append_right _ (List.mem_append_right _ (List.mem_append_right _ (List.mem_append_right _ (List.mem_append_right _ (List.mem_append_right _ (List.mem_append_right _ (List.mem_append_right _ (List.mem_append_right _ (List.mem_append_right _ (List.mem_append_right _ (List.mem_append_right _ (List.mem_append_right _ (List.mem_append_right _ (List.mem_append_right _ (List.mem_append_left _ h))))))))))))))))))))
theorem mL21 : ∀ w ∈ wU21, w ∈ wsL_law0 := fun _ h => List.mem_append_right _ (List.mem_append_right _ (List.mem_append_right _ (List.mem_append_right _ (List.mem_append_right _ (List.mem_append_right _ (List.mem_append_right _ (List.mem_append_right _ (List.mem_append_right _ (List.mem_append_right _ (List.mem_append_right _ (List.mem_append_right _ (List.mem_append_right _ (List.mem_append_right _ (List.mem_append_right _ (List.mem_append_right _ (List.mem_append_right _ (List.mem_append_right _ (List.mem_append_right _ (List.mem_append_right _ (List.mem_append_right _ (List.mem_append_left _ h)))))))))))))))))))))
theorem mL22 : ∀ w ∈ wU22, w ∈ wsL_law0 := fun _ h => List.mem_append_right _ (List.mem_append_right _ (List.mem_append_right _ (List.mem_append_right _ (List.mem_append_right _ (List.mem_append_right _ (List.mem_append_right _ (List.mem_append_right _ (List.mem_append_right _ (List.mem_append_right _ (List.mem_append_right _ (List.mem_append_right _ (List.mem_append_right _ (List.mem_append_right _ (List.mem_append_right _ (List.mem_append_right _ (List.mem_append_right _ (List.mem_append_right _ (List.mem_append_right _ (List.mem_append_right _ (List.mem_append_right _ (List.mem_append_right _ (List.mem_append_left _ h))))))))))))))))))))))
theorem mL23 : ∀ w ∈ wU23, w ∈ wsL_law0 := fun _ h => List.mem_append_right _ (List.mem_append_right _ (List.mem_append_right _ (List.mem_append_right _ (List.mem_append_right _ (List.mem_append_right _ (List.mem_append_right _ (List.mem_append_right _ (List.mem_append_right _ (List.mem_append_right _ (List.mem_append_right _ (List.mem_append_right _ (List.mem_append_right _ (List.mem_append_right _ (List.mem_append_right _ (List.mem_append_right _ (List.mem_append_right _ (List.mem_append_right _ (List.mem_append_right _ (List.mem_append_right _ (List.mem_append_right _ (List.mem_append_right _ (List.mem_append_right _ (List.mem_append_left _ h)))))))))))))))))))))))
theorem mL24 : ∀ w ∈ wU24, w ∈ wsL_law0 := fun _ h => List.mem_append_right _ (List.mem_append_right _ (List.mem_append_right _ (List.mem_append_right _ (List.mem_append_right _ (List.mem_append_right _ (List.mem_append_right _ (List.mem_append_right _ (List.mem_append_right _ (List.mem_append_right _ (List.mem_append_right _ (List.mem_append_right _ (List.mem_append_right _ (List.mem_append_right _ (List.mem_append_right _ (List.mem_append_right _ (List.mem_append_right _ (List.mem_append_right _ (List.mem_append_right _ (List.mem_append_right _ (List.mem_append_right _ (List.mem_append_right _ (List.mem_append_right _ (List.mem_append_right _ (List.mem_append_left _ h))))))))))))))))))))))))
theorem mL25 : ∀ w ∈ wU25, w ∈ wsL_law0 := fun _ h => List.mem_append_right _ (List.mem_append_right _ (List.mem_append_right _ (List.mem_append_right _ (List.mem_append_right _ (List.mem_append_right _ (List.mem_append_right _ (List.mem_append_right _ (List.mem_append_right _ (List.mem_append_right _ (List.mem_append_right _ (List.mem_append_right _ (List.mem_append_right _ (List.mem_append_right _ (List.mem_append_right _ (List.mem_append_right _ (List.mem_append_right _ (List.mem_append_right _ (List.mem_append_right _ (List.mem_append_right _ (List.mem_append_right _ (List.mem_append_right _ (List.mem_append_right _ (List.mem_append_right _ (List.mem_append_right _ (List.mem_append_left _ h)))))))))))))))))))))))))
theorem mL26 : ∀ w ∈ wU26, w ∈ wsL_law0 := fun _ h => List.mem_append_right _ (List.mem_append_right _ (List.mem_append_right _ (List.mem_append_right _ (List.mem_append_right _ (List.mem_append_right _ (List.mem_append_right _ (List.mem_append_right _ (List.mem_append_right _ (List.mem_append_right _ (List.mem_append_right _ (List.mem_append_right _ (List.mem_append_right _ (List.mem_append_right _ (List.mem_append_right _ (List.mem_append_right _ (List.mem_append_right _ (List.mem_append_right _ (List.mem_append_right _ (List.mem_append_right _ (List.mem_append_right _ (List.mem_append_right _ (List.mem_append_right _ (List.mem_append_right _ (List.mem_append_right _ (List.mem_append_right _ (List.mem_append_left _ h))))))))))))))))))))))))))
theorem mL27 : ∀ w ∈ wU27, w ∈ wsL_law0 := fun _ h => List.mem_append_right _ (List.mem_append_right _ (List.mem_append_right _ (List.mem_append_right _ (List.mem_append_right _ (List.mem_append_right _ (List.mem_append_right _ (List.mem_append_right _ (List.mem_append_right _ (List.mem_append_right _ (List.mem_append_right _ (List.mem_append_right _ (List.mem_append_right _ (List.mem_append_right _ (List.mem_append_right _ (List.mem_append_right _ (List.mem_append_right _ (List.mem_append_right _ (List.mem_append_right _ (List.mem_append_right _ (List.mem_append_right _ (List.mem_append_right _ (List.mem_append_right _ (List.mem_append_right _ (List.mem_append_right _ (List.mem_append_right _ (List.mem_append_right _ (List.mem_append_left _ h)))))))))))))))))))))))))))
theorem mL28 : ∀ w ∈ wU28, w ∈ wsL_law0 := fun _ h => List.mem_append_right _ (List.mem_append_right _ (List.mem_append_right _ (List.mem_append_right _ (List.mem_append_right _ (List.mem_append_right _ (List.mem_append_right _ (List.mem_append_right _ (List.mem_append_right _ (List.mem_append_right _ (List.mem_append_right _ (List.mem_append_right _ (List.mem_append_right _ (List.mem_append_right _ (List.mem_append_right _ (List.mem_append_right _ (List.mem_append_right _ (List.mem_append_right _ (List.mem_append_right _ (List.mem_append_right _ (List.mem_append_right _ (List.mem_append_right _ (List.mem_append_right _ (List.mem_append_right _ (List.mem_append_right _ (List.mem_append_right _ (List.mem_append_right _ (List.mem_append_right _ (List.mem_append_left _ h))))))))))))))))))))))))))))
theorem mL29 : ∀ w ∈ wU29, w ∈ wsL_law0 := fun _ h => List.mem_append_right _ (List.mem_append_right _ (List.mem_append_right _ (List.mem_append_right _ (List.mem_append_right _ (List.mem_append_right _ (List.mem_append_right _ (List.mem_append_right _ (List.mem_append_right _ (List.mem_append_right _ (List.mem_append_right _ (List.mem_append_right _ (List.mem_append_right _ (List.mem_append_right _ (List.mem_append_right _ (List.mem_append_right _ (List.mem_append_right _ (List.mem_append_right _ (List.mem_append_right _ (List.mem_append_right _ (List.mem_append_right _ (List.mem_append_right _ (List.mem_append_right _ (List.mem_append_right _ (List.mem_append_right _ (List.mem_append_right _ (List.mem_append_right _ (List.mem_append_right _ (List.mem_append_right _ (List.mem_append_left _ h)))))))))))))))))))))))))))))
theorem mL30 : ∀ w ∈ wU30, w ∈ wsL_law0 := fun _ h => List.mem_append_right _ (List.mem_append_right _ (List.mem_append_right _ (List.mem_append_right _ (List.mem_append_right _ (List.mem_append_right _ (List.mem_append_right _ (List.mem_append_right _ (List.mem_append_right _ (List.mem_append_right _ (List.mem_append_right _ (List.mem_append_right _ (List.mem_append_right _ (List.mem_append_right _ (List.mem_append_right _ (List.mem_append_right _ (List.mem_append_right _ (List.mem_append_right _ (List.mem_append_right _ (List.mem_append_right _ (List.mem_append_right _ (List.mem_append_right _ (List.mem_append_right _ (List.mem_append_right _ (List.mem_append_right _ (List.mem_append_right _ (List.mem_append_right _ (List.mem_append_right _ (List.mem_append_right _ (List.mem_append_right _ (List.mem_append_left _ h))))))))))))))))))))))))))))))
theorem mL31 : ∀ w ∈ wU31, w ∈ wsL_law0 := fun _ h => List.mem_append_right _ (List.mem_append_right _ (List.mem_append_right _ (List.mem_append_right _ (List.mem_append_right _ (List.mem_append_right _ (List.mem_append_right _ (List.mem_append_right _ (List.mem_append_right _ (List.mem_append_right _ (List.mem_append_right _ (List.mem_append_right _ (List.mem_append_right _ (List.mem_append_right _ (List.mem_append_right _ (List.mem_append_right _ (List.mem_append_right _ (List.mem_append_right _ (List.mem_append_right _ (List.mem_append_right _ (List.mem_append_right _ (List.mem_append_right _ (List.mem_append_right _ (List.mem_append_right _ (List.mem_append_right _ (List.mem_append_right _ (List.mem_append_right _ (List.mem_append_right _ (List.mem_append_right _ (List.mem_append_right _ (List.mem_append_right _ (List.mem_append_left _ h)))))))))))))))))))))))))))))))
theorem mL32 : ∀ w ∈ wU32, w ∈ wsL_law0 := fun _ h => List.mem_append_right _ (List.mem_append_right _ (List.mem_append_right _ (List.mem_append_right _ (List.mem_append_right _ (List.mem_append_right _ (List.mem_append_right _ (List.mem_append_right _ (List.mem_append_right _ (List.mem_append_right _ (List.mem_append_right _ (List.mem_append_right _ (List.mem_append_right _ (List.mem_append_right _ (List.mem_append_right _ (List.mem_append_right _ (List.mem_append_right _ (List.mem_append_right _ (List.mem_append_right _ (List.mem_append_right _ (List.mem_append_right _ (List.mem_append_right _ (List.mem_append_right _ (List.mem_append_right _ (List.mem_append_right _ (List.mem_append_right _ (List.mem_append_right _ (List.mem_append_right _ (List.mem_append_right _ (List.mem_append_right _ (List.mem_append_right _ (List.mem_append_right _ (List.mem_append_left _ h))))))))))))))))))))))))))))))))
theorem mL33 : ∀ w ∈ wU33, w ∈ wsL_law0 := fun _ h => List.mem_append_right _ (List.mem_append_right _ (List.mem_append_right _ (List.mem_append_right _ (List.mem_append_right _ (List.mem_append_right _ (List.mem_append_right _ (List.mem_append_right _ (List.mem_append_right _ (List.mem_append_right _ (List.mem_append_right _ (List.mem_append_right _ (List.mem_append_right _ (List.mem_append_right _ (List.mem_append_right _ (List.mem_append_right _ (List.mem_append_right _ (List.mem_append_right _ (List.mem_append_right _ (List.mem_append_right _ (List.mem_append_right _ (List.mem_append_right _ (List.mem_append_right _ (List.mem_append_right _ (List.mem_append_right _ (List.mem_append_right _ (List.mem_append_right _ (List.mem_append_right _ (List.mem_append_right _ (List.mem_append_right _ (List.mem_append_right _ (List.mem_append_right _ (List.mem_append_right _ (List.mem_append_left _ h)))))))))))))))))))))))))))))))))
theorem mL34 : ∀ w ∈ wU34, w ∈ wsL_law0 := fun _ h => List.mem_append_right _ (List.mem_append_right _ (List.mem_append_right _ (List.mem_append_right _ (List.mem_append_right _ (List.mem_append_right _ (List.mem_append_right _ (List.mem_append_right _ (List.mem_append_right _ (List.mem_append_right _ (List.mem_append_right _ (List.mem_append_right _ (List.mem_append_right _ (List.mem_append_right _ (List.mem_append_right _ (List.mem_append_right _ (List.mem_append_right _ (List.mem_append_right _ (List.mem_append_right _ (List.mem_append_right _ (List.mem_append_right _ (List.mem_append_right _ (List.mem_append_right _ (List.mem_append_right _ (List.mem_append_right _ (List.mem_append_right _ (List.mem_append_right _ (List.mem_append_right _ (List.mem_append_right _ (List.mem_append_right _ (List.mem_append_right _ (List.mem_append_right _ (List.mem_append_right _ (List.mem_append_right _ (List.mem_append_left _ h))))))))))))))))))))))))))))))))))
theorem mL35 : ∀ w ∈ wU35, w ∈ wsL_law0 := fun _ h => List.mem_append_right _ (List.mem_append_right _ (List.mem_append_right _ (List.mem_append_right _ (List.mem_append_right _ (List.mem_append_right _ (List.mem_append_right _ (List.mem_append_right _ (List.mem_append_right _ (List.mem_append_right _ (List.mem_append_right _ (List.mem_append_right _ (List.mem_append_right _ (List.mem_append_right _ (List.mem_append_right _ (List.mem_append_right _ (List.mem_append_right _ (List.mem_append_right _ (List.mem_append_right _ (List.mem_append_right _ (List.mem_append_right _ (List.mem_append_right _ (List.mem_append_right _ (List.mem_append_right _ (List.mem_append_right _ (List.mem_append_right _ (List.mem_append_right _ (List.mem_append_right _ (List.mem_append_right _ (List.mem_append_right _ (List.mem_append_right _ (List.mem_append_right _ (List.mem_append_right _ (List.mem_append_right _ (List.mem_append_right _ (List.mem_append_left _ h)))))))))))))))))))))))))))))))))))
theorem inlX0 : ∀ w ∈ wsX00, w ∈ wsL_law0 := fun _ h => List.mem_append_right _ (List.mem_append_right _ (List.mem_append_right _ (List.mem_append_right _ (List.mem_append_right _ (List.mem_append_right _ (List.mem_append_right _ (List.mem_append_right _ (List.mem_append_right _ (List.mem_append_right _ (List.mem_append_right _ (List.mem_append_right _ (List.mem_append_right _ (List.mem_append_right _ (List.mem_append_right _ (List.mem_append_right _ (List.mem_append_right _ (List.mem_append_right _ (List.mem_append_right _ (List.mem_append_right _ (List.mem_append_right _ (List.mem_append_right _ (List.mem_append_right _ (List.mem_append_right _ (List.mem_append_right _ (List.mem_append_right _ (List.mem_append_right _ (List.mem_append_right _ (List.mem_append_right _ (List.mem_append_right _ (List.mem_append_right _ (List.mem_append_right _ (List.mem_append_right _ (List.mem_append_right _ (List.mem_append_right _ (List.mem_append_right _ (List.mem_append_left _ h))))))))))))))))))))))))))))))))))))
theorem inlX1 : ∀ w ∈ wsX10, w ∈ wsL_law0 := fun _ h => List.mem_append_right _ (List.mem_append_right _ (List.mem_append_right _ (List.mem_append_right _ (List.mem_append_right _ (List.mem_append_right _ (List.mem_append_right _ (List.mem_append_right _ (List.mem_append_right _ (List.mem_append_right _ (List.mem_append_right _ (List.mem_append_right _ (List.mem_append_right _ (List.mem_append_right _ (List.mem_append_right _ (List.mem_append_right _ (List.mem_append_right _ (List.mem_append_right _ (List.mem_append_right _ (List.mem_append_right _ (List.mem_append_right _ (List.mem_append_right _ (List.mem_append_right _ (List.mem_append_right _ (List.mem_append_right _ (List.mem_append_right _ (List.mem_append_right _ (List.mem_append_right _ (List.mem_append_right _ (List.mem_append_right _ (List.mem_append_right _ (List.mem_append_right _ (List.mem_append_right _ (List.mem_append_right _ (List.mem_append_right _ (List.mem_append_right _ (List.mem_append_right _ (List.mem_append_left _ h)))))))))))))))))))))))))))))))))))))
theorem inlX2 : ∀ w ∈ wsX20, w ∈ wsL_law0 := fun _ h => List.mem_append_right _ (List.mem_append_right _ (List.mem_append_right _ (List.mem_append_right _ (List.mem_append_right _ (List.mem_append_right _ (List.mem_append_right _ (List.mem_append_right _ (List.mem_append_right _ (List.mem_append_right _ (List.mem_append_right _ (List.mem_append_right _ (List.mem_append_right _ (List.mem_append_right _ (List.mem_append_right _ (List.mem_append_right _ (List.mem_append_right _ (List.mem_append_right _ (List.mem_append_right _ (List.mem_append_right _ (List.mem_append_right _ (List.mem_append_right _ (List.mem_append_right _ (List.mem_append_right _ (List.mem_append_right _ (List.mem_append_right _ (List.mem_append_right _ (List.mem_append_right _ (List.mem_append_right _ (List.mem_append_right _ (List.mem_append_right _ (List.mem_append_right _ (List.mem_append_right _ (List.mem_append_right _ (List.mem_append_right _ (List.mem_append_right _ (List.mem_append_right _ (List.mem_append_right _ (List.mem_append_left _ h))))))))))))))))))))))))))))))))))))))
theorem inlX3 : ∀ w ∈ wsX30, w ∈ wsL_law0 := fun _ h => List.mem_append_right _ (List.mem_append_right _ (List.mem_append_right _ (List.mem_append_right _ (List.mem_append_right _ (List.mem_append_right _ (List.mem_append_right _ (List.mem_append_right _ (List.mem_append_right _ (List.mem_append_right _ (List.mem_append_right _ (List.mem_append_right _ (List.mem_append_right _ (List.mem_append_right _ (List.mem_append_right _ (List.mem_append_right _ (List.mem_append_right _ (List.mem_append_right _ (List.mem_append_right _ (List.mem_append_right _ (List.mem_append_right _ (List.mem_append_right _ (List.mem_append_right _ (List.mem_append_right _ (List.mem_append_right _ (List.mem_append_right _ (List.mem_append_right _ (List.mem_append_right _ (List.mem_append_right _ (List.mem_append_right _ (List.mem_append_right _ (List.mem_append_right _ (List.mem_append_right _ (List.mem_append_right _ (List.mem_append_right _ (List.mem_append_right _ (List.mem_append_right _ (List.mem_append_right _ (List.mem_append_right _ (List.mem_append_left _ h)))))))))))))))))))))))))))))))))))))))
theorem inlX4 : ∀ w ∈ wsX40, w ∈ wsL_law0 := fun _ h => List.mem_append_right _ (List.mem_append_right _ (List.mem_append_right _ (List.mem_append_right _ (List.mem_append_right _ (List.mem_append_right _ (List.mem_append_right _ (List.mem_append_right _ (List.mem_append_right _ (List.mem_append_right _ (List.mem_append_right _ (List.mem_append_right _ (List.mem_append_right _ (List.mem_append_right _ (List.mem_append_right _ (List.mem_append_right _ (List.mem_append_right _ (List.mem_append_right _ (List.mem_append_right _ (List.mem_append_right _ (List.mem_append_right _ (List.mem_append_right _ (List.mem_append_right _ (List.mem_append_right _ (List.mem_append_right _ (List.mem_append_right _ (List.mem_append_right _ (List.mem_append_right _ (List.mem_append_right _ (List.mem_append_right _ (List.mem_append_right _ (List.mem_append_right _ (List.mem_append_right _ (List.mem_append_right _ (List.mem_append_right _ (List.mem_append_right _ (List.mem_append_right _ (List.mem_append_right _ (List.mem_append_right _ (List.mem_append_right _ (List.mem_append_left _ h))))))))))))))))))))))))))))))))))))))))
theorem inlX5 : ∀ w ∈ wsX50, w ∈ wsL_law0 := fun _ h => List.mem_append_right _ (List.mem_append_right _ (List.mem_append_right _ (List.mem_append_right _ (List.mem_append_right _ (List.mem_append_right _ (List.mem_append_right _ (List.mem_append_right _ (List.mem_append_right _ (List.mem_append_right _ (List.mem_append_right _ (List.mem_append_right _ (List.mem_append_right _ (List.mem_append_right _ (List.mem_append_right _ (List.mem_append_right _ (List.mem_append_right _ (List.mem_append_right _ (List.mem_append_right _ (List.mem_append_right _ (List.mem_append_right _ (List.mem_append_right _ (List.mem_append_right _ (List.mem_append_right _ (List.mem_append_right _ (List.mem_append_right _ (List.mem_append_right _ (List.mem_append_right _ (List.mem_append_right _ (List.mem_append_right _ (List.mem_append_right _ (List.mem_append_right _ (List.mem_append_right _ (List.mem_append_right _ (List.mem_append_right _ (List.mem_append_right _ (List.mem_append_right _ (List.mem_append_right _ (List.mem_append_right _ (List.mem_append_right _ (List.mem_append_right _ (List.mem_append_left _ h)))))))))))))))))))))))))))))))))))))))))
theorem inlX6 : ∀ w ∈ wsX60, w ∈ wsL_law0 := fun _ h => List.mem_append_right _ (List.mem_append_right _ (List.mem_append_right _ (List.mem_append_right _ (List.mem_append_right _ (List.mem_append_right _ (List.mem_append_right _ (List.mem_append_right _ (List.mem_append_right _ (List.mem_append_right _ (List.mem_append_right _ (List.mem_append_right _ (List.mem_append_right _ (List.mem_append_right _ (List.mem_append_right _ (List.mem_append_right _ (List.mem_append_right _ (List.mem_append_right _ (List.mem_append_right _ (List.mem_append_right _ (List.mem_append_right _ (List.mem_append_right _ (List.mem_append_right _ (List.mem_append_right _ (List.mem_append_right _ (List.mem_append_right _ (List.mem_append_right _ (List.mem_append_right _ (List.mem_append_right _ (List.mem_append_right _ (List.mem_append_right _ (List.mem_append_right _ (List.mem_append_right _ (List.mem_append_right _ (List.mem_append_right _ (List.mem_append_right _ (List.mem_append_right _ (List.mem_append_right _ (List.mem_append_right _ (List.mem_append_right _ (List.mem_append_right _ (List.mem_append_right _ (List.mem_append_left _ h))))))))))))))))))))))))))))))))))))))))))
theorem inlX7 : ∀ w ∈ wsX70, w ∈ wsL_law0 := fun _ h => List.mem_append_right _ (List.mem_append_right _ (List.mem_append_right _ (List.mem_append_right _ (List.mem_append_right _ (List.mem_append_right _ (List.mem_append_right _ (List.mem_append_right _ (List.mem_append_right _ (List.mem_append_right _ (List.mem_append_right _ (List.mem_append_right _ (List.mem_append_right _ (List.mem_append_right _ (List.mem_append_right _ (List.mem_append_right _ (List.mem_append_right _ (List.mem_append_right _ (List.mem_append_right _ (List.mem_append_right _ (List.mem_append_right _ (List.mem_append_right _ (List.mem_append_right _ (List.mem_append_right _ (List.mem_append_right _ (List.mem_append_right _ (List.mem_append_right _ (List.mem_append_right _ (List.mem_append_right _ (List.mem_append_right _ (List.mem_append_right _ (List.mem_append_right _ (List.mem_append_right _ (List.mem_append_right _ (List.mem_append_right _ (List.mem_append_right _ (List.mem_append_right _ (List.mem_append_right _ (List.mem_append_right _ (List.mem_append_right _ (List.mem_append_right _ (List.mem_append_right _ (List.mem_append_right _ (List.mem_append_left _ h)))))))))))))))))))))))))))))))))))))))))))
theorem inlX8 : ∀ w ∈ wsX80, w ∈ wsL_law0 := fun _ h => List.mem_append_right _ (List.mem_append_right _ (List.mem_append_right _ (List.mem_append_right _ (List.mem_append_right _ (List.mem_append_right _ (List.mem_append_right _ (List.mem_append_right _ (List.mem_append_right _ (List.mem_append_right _ (List.mem_append_right _ (List.mem_append_right _ (List.mem_append_right _ (List.mem_append_right _ (List.mem_append_right _ (List.mem_append_right _ (List.mem_append_right _ (List.mem_append_right _ (List.mem_append_right _ (List.mem_append_right _ (List.mem_append_right _ (List.mem_append_right _ (List.mem_append_right _ (List.mem_append_right _ (List.mem_append_right _ (List.mem_append_right _ (List.mem_append_right _ (List.mem_append_right _ (List.mem_append_right _ (List.mem_append_right _ (List.mem_append_right _ (List.mem_append_right _ (List.mem_append_right _ (List.mem_append_right _ (List.mem_append_right _ (List.mem_append_right _ (List.mem_append_right _ (List.mem_append_right _ (List.mem_append_right _ (List.mem_append_right _ (List.mem_append_right _ (List.mem_append_right _ (List.mem_append_right _ (List.mem_append_right _ (List.mem_append_left _ h))))))))))))))))))))))))))))))))))))))))))))
theorem inlX9 : ∀ w ∈ wsX90, w ∈ wsL_law0 := fun _ h => List.mem_append_right _ (List.mem_append_right _ (List.mem_append_right _ (List.mem_append_right _ (List.mem_append_right _ (List.mem_append_right _ (List.mem_append_right _ (List.mem_append_right _ (List.mem_append_right _ (List.mem_append_right _ (List.mem_append_right _ (List.mem_append_right _ (List.mem_append_right _ (List.mem_append_right _ (List.mem_append_right _ (List.mem_append_right _ (List.mem_append_right _ (List.mem_append_right _ (List.mem_append_right _ (List.mem_append_right _ (List.mem_append_right _ (List.mem_append_right _ (List.mem_append_right _ (List.mem_append_right _ (List.mem_append_right _ (List.mem_append_right _ (List.mem_append_right _ (List.mem_append_right _ (List.mem_append_right _ (List.mem_append_right _ (List.mem_append_right _ (List.mem_append_right _ (List.mem_append_right _ (List.mem_append_right _ (List.mem_append_right _ (List.mem_append_right _ (List.mem_append_right _ (List.mem_append_right _ (List.mem_append_right _ (List.mem_append_right _ (List.mem_append_right _ (List.mem_append_right _ (List.mem_append_right _ (List.mem_append_right _ (List.mem_append_right _ (List.mem_append_left _ h)))))))))))))))))))))))))))))))))))))))))))))
theorem inlX10 : ∀ w ∈ wsX100, w ∈ wsL_law0 := fun _ h => List.mem_append_right _ (List.mem_append_right _ (List.mem_append_right _ (List.mem_append_right _ (List.mem_append_right _ (List.mem_append_right _ (List.mem_append_right _ (List.mem_append_right _ (List.mem_append_right _ (List.mem_append_right _ (List.mem_append_right _ (List.mem_append_right _ (List.mem_append_right _ (List.mem_append_right _ (List.mem_append_right _ (List.mem_append_right _ (List.mem_append_right _ (List.mem_append_right _ (List.mem_append_right _ (List.mem_append_right _ (List.mem_append_right _ (List.mem_append_right _ (List.mem_append_right _ (List.mem_append_right _ (List.mem_append_right _ (List.mem_append_right _ (List.mem_append_right _ (List.mem_append_right _ (List.mem_append_right _ (List.mem_append_right _ (List.mem_append_right _ (List.mem_append_right _ (List.mem_append_right _ (List.mem_append_right _ (List.mem_append_right _ (List.mem_append_right _ (List.mem_append_right _ (List.mem_append_right _ (List.mem_append_right _ (List.mem_append_right _ (List.mem_append_right _ (List.mem_append_right _ (List.mem_append_right _ (List.mem_append_right _ (List.mem_append_right _ (List.mem_append_right _ (List.mem_append_left _ h))))))))))))))))))))))))))))))))))))))))))))))
theorem inlX11 : ∀ w ∈ wsX110, w ∈ wsL_law0 := fun _ h => List.mem_append_right _ (List.mem_append_right _ (List.mem_append_right _ (List.mem_append_right _ (List.mem_append_right _ (List.mem_append_right _ (List.mem_append_right _ (List.mem_append_right _ (List.mem_append_right _ (List.mem_append_right _ (List.mem_append_right _ (List.mem_append_right _ (List.mem_append_right _ (List.mem_append_right _ (List.mem_append_right _ (List.mem_append_right _ (List.mem_append_right _ (List.mem_append_right _ (List.mem_append_right _ (List.mem_append_right _ (List.mem_append_right _ (List.mem_append_right _ (List.mem_append_right _ (List.mem_append_right _ (List.mem_append_right _ (List.mem_append_right _ (List.mem_append_right _ (List.mem_append_right _ (List.mem_append_right _ (List.mem_append_right _ (List.mem_append_right _ (List.mem_append_right _ (List.mem_append_right _ (List.mem_append_right _ (List.mem_append_right _ (List.mem_append_right _ (List.mem_append_right _ (List.mem_append_right _ (List.mem_append_right _ (List.mem_append_right _ (List.mem_append_right _ (List.mem_append_right _ (List.mem_append_right _ (List.mem_append_right _ (List.mem_append_right _ (List.mem_append_right _ (List.mem_append_right _ (h)))))))))))))))))))))))))))))))))))))))))))))))
theorem mw0 : Cond.methodLink RX8 1 objectInit ∈ wsL_law0 := mL0 _ (List.mem_of_getElem? (i := 0) rfl)
theorem mw1 : Cond.instanceMethod objectInit ∈ wsL_law0 := mL0 _ (List.mem_of_getElem? (i := 1) rfl)
theorem mw2 : Cond.code objectInit ⟨#[0xb1]⟩ 1 none ∈ wsL_law0 := mL0 _ (List.mem_of_getElem? (i := 2) rfl)
theorem mw3 : Cond.fieldLink RX8 7 "ReelChange$Table" "count" "I" ∈ wsL_law0 := mL0 _ (List.mem_of_getElem? (i := 3) rfl)
theorem mw4 : Cond.methodLink RX8 13 Lib.Math.max.name ∈ wsL_law0 := mL0 _ (List.mem_of_getElem? (i := 4) rfl)
theorem mw5 : Cond.static Lib.Math.max.name ∈ wsL_law0 := mL0 _ (List.mem_of_getElem? (i := 5) rfl)
theorem mw6 : Cond.initialized "java/lang/Math" ∈ wsL_law0 := mL0 _ (List.mem_of_getElem? (i := 6) rfl)
theorem mw7 : Cond.code Lib.Math.max.name Lib.Math.max.code 2 (some .int) ∈ wsL_law0 := mL0 _ (List.mem_of_getElem? (i := 7) rfl)
theorem mw8 : Cond.fieldLink RX8 19 "ReelChange$Table" "room" "I" ∈ wsL_law0 := mL0 _ (List.mem_of_getElem? (i := 8) rfl)
theorem mw9 : Cond.fieldLink RX8 22 "ReelChange$Table" "width" "I" ∈ wsL_law0 := mL0 _ (List.mem_of_getElem? (i := 9) rfl)
theorem mw10 : Cond.arrayClass .int ∈ wsL_law0 := mL0 _ (List.mem_of_getElem? (i := 10) rfl)
theorem mw11 : Cond.fieldLink RX8 25 "ReelChange$Table" "cells" "[I" ∈ wsL_law0 := mL0 _ (List.mem_of_getElem? (i := 11) rfl)
theorem mw12 : Cond.methodLink RX7 3 objectInit ∈ wsL_law0 := mL0 _ (List.mem_of_getElem? (i := 12) rfl)
theorem mw13 : Cond.classLink RX7 9 RX8 ∈ wsL_law0 := mL0 _ (List.mem_of_getElem? (i := 13) rfl)
theorem mw14 : Cond.instantiable RX8 4 ∈ wsL_law0 := mL0 _ (List.mem_of_getElem? (i := 14) rfl)
theorem mw15 : Cond.initialized RX8 ∈ wsL_law0 := mL0 _ (List.mem_of_getElem? (i := 15) rfl)
theorem mw16 : Cond.methodLink RX7 11 yX8_init ∈ wsL_law0 := mL0 _ (List.mem_of_getElem? (i := 16) rfl)
theorem mw17 : Cond.instanceMethod yX8_init ∈ wsL_law0 := mL0 _ (List.mem_of_getElem? (i := 17) rfl)
theorem mw18 : Cond.code yX8_init cX8_init 3 none ∈ wsL_law0 := mL0 _ (List.mem_of_getElem? (i := 18) rfl)
theorem mw19 : Cond.fieldLink RX7 14 "ReelChange$State" "reels" "LReelChange$Table;" ∈ wsL_law0 := mL0 _ (List.mem_of_getElem? (i := 19) rfl)
theorem mw20 : Cond.fieldLink RX7 20 "ReelChange$State" "marks" "LReelChange$Table;" ∈ wsL_law0 := mL0 _ (List.mem_of_getElem? (i := 20) rfl)
theorem mw21 : Cond.fieldLink RX7 23 "ReelChange$State" "weaks" "LReelChange$Table;" ∈ wsL_law0 := mL0 _ (List.mem_of_getElem? (i := 21) rfl)
theorem mw22 : Cond.fieldLink RX7 26 "ReelChange$State" "places" "LReelChange$Table;" ∈ wsL_law0 := mL0 _ (List.mem_of_getElem? (i := 22) rfl)
theorem mw23 : Cond.fieldLink RX7 29 "ReelChange$State" "mended" "I" ∈ wsL_law0 := mL0 _ (List.mem_of_getElem? (i := 23) rfl)
theorem mw24 : Cond.fieldLink RX7 33 "ReelChange$State" "trims" "I" ∈ wsL_law0 := mL1 _ (List.mem_of_getElem? (i := 0) rfl)
theorem mw25 : Cond.methodLink RX7 36 yX8_clear ∈ wsL_law0 := mL1 _ (List.mem_of_getElem? (i := 1) rfl)
theorem mw26 : Cond.instanceMethod yX8_clear ∈ wsL_law0 := mL1 _ (List.mem_of_getElem? (i := 2) rfl)
theorem mw27 : Cond.selects RX8 yX8_clear yX8_clear ∈ wsL_law0 := mL1 _ (List.mem_of_getElem? (i := 3) rfl)
theorem mw28 : Cond.code yX8_clear cX8_clear 1 none ∈ wsL_law0 := mL1 _ (List.mem_of_getElem? (i := 4) rfl)
theorem mw29 : Cond.methodLink RX7 47 yX8_has ∈ wsL_law0 := mL1 _ (List.mem_of_getElem? (i := 5) rfl)
theorem mw30 : Cond.instanceMethod yX8_has ∈ wsL_law0 := mL1 _ (List.mem_of_getElem? (i := 6) rfl)
theorem mw31 : Cond.selects RX8 yX8_has yX8_has ∈ wsL_law0 := mL1 _ (List.mem_of_getElem? (i := 7) rfl)
theorem mw32 : Cond.code yX8_has cX8_has 2 (some .boolean) ∈ wsL_law0 := mL1 _ (List.mem_of_getElem? (i := 8) rfl)
theorem mw33 : Cond.methodLink RX3 1 objectInit ∈ wsL_law0 := mL1 _ (List.mem_of_getElem? (i := 9) rfl)
theorem mw34 : Cond.classLink RX3 7 RX7 ∈ wsL_law0 := mL1 _ (List.mem_of_getElem? (i := 10) rfl)
theorem mw35 : Cond.instantiable RX7 6 ∈ wsL_law0 := mL1 _ (List.mem_of_getElem? (i := 11) rfl)
theorem mw36 : Cond.initialized RX7 ∈ wsL_law0 := mL1 _ (List.mem_of_getElem? (i := 12) rfl)
theorem mw37 : Cond.instanceMethod yX7_init ∈ wsL_law0 := mL1 _ (List.mem_of_getElem? (i := 13) rfl)
theorem mw38 : Cond.code yX7_init cX7_init 1 none ∈ wsL_law0 := mL1 _ (List.mem_of_getElem? (i := 14) rfl)
theorem mw39 : Cond.fieldLink RX3 10 "ReelChange$House" "atFirst" "LReelChange$State;" ∈ wsL_law0 := mL1 _ (List.mem_of_getElem? (i := 15) rfl)
theorem mw40 : Cond.classLink RX3 16 RX8 ∈ wsL_law0 := mL1 _ (List.mem_of_getElem? (i := 16) rfl)
theorem mw41 : Cond.methodLink RX3 18 yX8_init ∈ wsL_law0 := mL1 _ (List.mem_of_getElem? (i := 17) rfl)
theorem mw42 : Cond.fieldLink RX3 21 "ReelChange$House" "numbers" "LReelChange$Table;" ∈ wsL_law0 := mL1 _ (List.mem_of_getElem? (i := 18) rfl)
theorem mw43 : Cond.fieldLink RX3 25 "ReelChange$House" "towns" "LReelChange$Table;" ∈ wsL_law0 := mL1 _ (List.mem_of_getElem? (i := 19) rfl)
theorem mw44 : Cond.fieldLink RX3 28 "ReelChange$House" "joins" "LReelChange$Table;" ∈ wsL_law0 := mL1 _ (List.mem_of_getElem? (i := 20) rfl)
theorem mw45 : Cond.fieldLink RX3 31 "ReelChange$House" "men" "LReelChange$Table;" ∈ wsL_law0 := mL1 _ (List.mem_of_getElem? (i := 21) rfl)
theorem mw46 : Cond.fieldLink RX3 34 "ReelChange$House" "boys" "LReelChange$Table;" ∈ wsL_law0 := mL1 _ (List.mem_of_getElem? (i := 22) rfl)
theorem mw47 : Cond.fieldLink RX3 37 "ReelChange$House" "signs" "LReelChange$Table;" ∈ wsL_law0 := mL1 _ (List.mem_of_getElem? (i := 23) rfl)
theorem mw48 : Cond.fieldLink RX3 40 "ReelChange$House" "scratches" "LReelChange$Table;" ∈ wsL_law0 := mL2 _ (List.mem_of_getElem? (i := 0) rfl)
theorem mw49 : Cond.methodLink RX3 47 yX7_clear ∈ wsL_law0 := mL2 _ (List.mem_of_getElem? (i := 1) rfl)
theorem mw50 : Cond.instanceMethod yX7_clear ∈ wsL_law0 := mL2 _ (List.mem_of_getElem? (i := 2) rfl)
theorem mw51 : Cond.selects RX7 yX7_clear yX7_clear ∈ wsL_law0 := mL2 _ (List.mem_of_getElem? (i := 3) rfl)
theorem mw52 : Cond.code yX7_clear cX7_clear 1 none ∈ wsL_law0 := mL2 _ (List.mem_of_getElem? (i := 4) rfl)
theorem mw53 : Cond.methodLink RX3 50 yX8_clear ∈ wsL_law0 := mL2 _ (List.mem_of_getElem? (i := 5) rfl)
theorem mw54 : Cond.methodLink RX4 3 objectInit ∈ wsL_law0 := mL2 _ (List.mem_of_getElem? (i := 6) rfl)
theorem mw55 : Cond.classLink RX4 11 RX7 ∈ wsL_law0 := mL2 _ (List.mem_of_getElem? (i := 7) rfl)
theorem mw56 : Cond.fieldLink RX4 13 "ReelChange$Kept" "ahead" "[LReelChange$State;" ∈ wsL_law0 := mL2 _ (List.mem_of_getElem? (i := 8) rfl)
theorem mw57 : Cond.fieldLink RX4 17 "ReelChange$Kept" "images" "[LReelChange$State;" ∈ wsL_law0 := mL2 _ (List.mem_of_getElem? (i := 9) rfl)
theorem mw58 : Cond.fieldLink RX4 20 "ReelChange$Kept" "acts" "I" ∈ wsL_law0 := mL2 _ (List.mem_of_getElem? (i := 10) rfl)
theorem mw59 : Cond.fieldLink RX4 24 "ReelChange$Kept" "next" "I" ∈ wsL_law0 := mL2 _ (List.mem_of_getElem? (i := 11) rfl)
theorem mw60 : Cond.fieldLink RX4 27 "ReelChange$Kept" "imaged" "I" ∈ wsL_law0 := mL2 _ (List.mem_of_getElem? (i := 12) rfl)
theorem mw61 : Cond.methodLink RX5 3 objectInit ∈ wsL_law0 := mL2 _ (List.mem_of_getElem? (i := 13) rfl)
theorem mw62 : Cond.classLink RX5 9 RX8 ∈ wsL_law0 := mL2 _ (List.mem_of_getElem? (i := 14) rfl)
theorem mw63 : Cond.methodLink RX5 11 yX8_init ∈ wsL_law0 := mL2 _ (List.mem_of_getElem? (i := 15) rfl)
theorem mw64 : Cond.fieldLink RX5 14 "ReelChange$Night" "rows" "LReelChange$Table;" ∈ wsL_law0 := mL2 _ (List.mem_of_getElem? (i := 16) rfl)
theorem mw65 : Cond.fieldLink RX5 20 "ReelChange$Night" "snapped" "I" ∈ wsL_law0 := mL2 _ (List.mem_of_getElem? (i := 17) rfl)
theorem mw66 : Cond.fieldLink RX5 24 "ReelChange$Night" "mostSlip" "I" ∈ wsL_law0 := mL2 _ (List.mem_of_getElem? (i := 18) rfl)
theorem mw67 : Cond.fieldLink RX5 27 "ReelChange$Night" "slip" "I" ∈ wsL_law0 := mL2 _ (List.mem_of_getElem? (i := 19) rfl)
theorem mw68 : Cond.fieldLink RX5 30 "ReelChange$Night" "isDrawn" "Z" ∈ wsL_law0 := mL2 _ (List.mem_of_getElem? (i := 20) rfl)
theorem mw69 : Cond.fieldLink RX5 34 "ReelChange$Night" "seed" "I" ∈ wsL_law0 := mL2 _ (List.mem_of_getElem? (i := 21) rfl)
theorem mw70 : Cond.fieldLink RX5 37 "ReelChange$Night" "tick" "I" ∈ wsL_law0 := mL2 _ (List.mem_of_getElem? (i := 22) rfl)
theorem mw71 : Cond.fieldLink RX5 40 "ReelChange$Night" "motorTick" "I" ∈ wsL_law0 := mL2 _ (List.mem_of_getElem? (i := 23) rfl)
theorem mw72 : Cond.fieldLink RX5 43 "ReelChange$Night" "ahead" "I" ∈ wsL_law0 := mL3 _ (List.mem_of_getElem? (i := 0) rfl)
theorem mw73 : Cond.methodLink RX0 3 objectInit ∈ wsL_law0 := mL3 _ (List.mem_of_getElem? (i := 1) rfl)
theorem mw74 : Cond.classLink RX0 9 RX8 ∈ wsL_law0 := mL3 _ (List.mem_of_getElem? (i := 2) rfl)
theorem mw75 : Cond.methodLink RX0 11 yX8_init ∈ wsL_law0 := mL3 _ (List.mem_of_getElem? (i := 3) rfl)
theorem mw76 : Cond.fieldLink RX0 14 "ReelChange$Arcs" "left" "LReelChange$Table;" ∈ wsL_law0 := mL3 _ (List.mem_of_getElem? (i := 4) rfl)
theorem mw77 : Cond.fieldLink RX0 20 "ReelChange$Arcs" "dying" "I" ∈ wsL_law0 := mL3 _ (List.mem_of_getElem? (i := 5) rfl)
theorem mw78 : Cond.methodLink RX6 3 objectInit ∈ wsL_law0 := mL3 _ (List.mem_of_getElem? (i := 6) rfl)
theorem mw79 : Cond.classLink RX6 9 RX8 ∈ wsL_law0 := mL3 _ (List.mem_of_getElem? (i := 7) rfl)
theorem mw80 : Cond.methodLink RX6 11 yX8_init ∈ wsL_law0 := mL3 _ (List.mem_of_getElem? (i := 8) rfl)
theorem mw81 : Cond.fieldLink RX6 14 "ReelChange$Riders" "backAt" "LReelChange$Table;" ∈ wsL_law0 := mL3 _ (List.mem_of_getElem? (i := 9) rfl)
theorem mw82 : Cond.fieldLink RX6 20 "ReelChange$Riders" "apartNeeded" "I" ∈ wsL_law0 := mL3 _ (List.mem_of_getElem? (i := 10) rfl)
theorem mw83 : Cond.fieldLink RX6 24 "ReelChange$Riders" "waited" "I" ∈ wsL_law0 := mL3 _ (List.mem_of_getElem? (i := 11) rfl)
theorem mw84 : Cond.methodLink RX1 3 objectInit ∈ wsL_law0 := mL3 _ (List.mem_of_getElem? (i := 12) rfl)
theorem mw85 : Cond.classLink RX1 9 RX8 ∈ wsL_law0 := mL3 _ (List.mem_of_getElem? (i := 13) rfl)
theorem mw86 : Cond.methodLink RX1 13 yX8_init ∈ wsL_law0 := mL3 _ (List.mem_of_getElem? (i := 14) rfl)
theorem mw87 : Cond.fieldLink RX1 16 "ReelChange$Exchanger" "inOrder" "LReelChange$Table;" ∈ wsL_law0 := mL3 _ (List.mem_of_getElem? (i := 15) rfl)
theorem mw88 : Cond.fieldLink RX1 20 "ReelChange$Exchanger" "parts" "LReelChange$Table;" ∈ wsL_law0 := mL3 _ (List.mem_of_getElem? (i := 16) rfl)
theorem mw89 : Cond.arrayClass .long ∈ wsL_law0 := mL3 _ (List.mem_of_getElem? (i := 17) rfl)
theorem mw90 : Cond.fieldLink RX1 23 "ReelChange$Exchanger" "surplus" "[J" ∈ wsL_law0 := mL3 _ (List.mem_of_getElem? (i := 18) rfl)
theorem mw91 : Cond.methodLink RX2 1 objectInit ∈ wsL_law0 := mL3 _ (List.mem_of_getElem? (i := 19) rfl)
theorem mw92 : Cond.fieldLink RX2 7 "ReelChange$Fraction" "upper" "J" ∈ wsL_law0 := mL3 _ (List.mem_of_getElem? (i := 20) rfl)
theorem mw93 : Cond.fieldLink RX2 13 "ReelChange$Fraction" "lower" "J" ∈ wsL_law0 := mL3 _ (List.mem_of_getElem? (i := 21) rfl)
theorem mw94 : Cond.methodLink RX9 3 objectInit ∈ wsL_law0 := mL3 _ (List.mem_of_getElem? (i := 22) rfl)
theorem mw95 : Cond.fieldLink RX9 9 "ReelChange$Text" "taped" "I" ∈ wsL_law0 := mL3 _ (List.mem_of_getElem? (i := 23) rfl)
theorem mw96 : Cond.classLink RX9 15 RX3 ∈ wsL_law0 := mL4 _ (List.mem_of_getElem? (i := 0) rfl)
theorem mw97 : Cond.instantiable RX3 8 ∈ wsL_law0 := mL4 _ (List.mem_of_getElem? (i := 1) rfl)
theorem mw98 : Cond.initialized RX3 ∈ wsL_law0 := mL4 _ (List.mem_of_getElem? (i := 2) rfl)
theorem mw99 : Cond.instanceMethod yX3_init ∈ wsL_law0 := mL4 _ (List.mem_of_getElem? (i := 3) rfl)
theorem mw100 : Cond.code yX3_init cX3_init 1 none ∈ wsL_law0 := mL4 _ (List.mem_of_getElem? (i := 4) rfl)
theorem mw101 : Cond.fieldLink RX9 18 "ReelChange$Text" "house" "LReelChange$House;" ∈ wsL_law0 := mL4 _ (List.mem_of_getElem? (i := 5) rfl)
theorem mw102 : Cond.fieldLink RX9 22 "ReelChange$Text" "faultNumber" "I" ∈ wsL_law0 := mL4 _ (List.mem_of_getElem? (i := 6) rfl)
theorem mw103 : Cond.fieldLink RX9 25 "ReelChange$Text" "faultPlace" "I" ∈ wsL_law0 := mL4 _ (List.mem_of_getElem? (i := 7) rfl)
theorem mw104 : Cond.arrayClass .byte ∈ wsL_law0 := mL4 _ (List.mem_of_getElem? (i := 8) rfl)
theorem mw105 : Cond.fieldLink RX9 28 "ReelChange$Text" "tape" "[B" ∈ wsL_law0 := mL4 _ (List.mem_of_getElem? (i := 9) rfl)
theorem mw106 : Cond.fieldLink RX9 32 "ReelChange$Text" "end" "I" ∈ wsL_law0 := mL4 _ (List.mem_of_getElem? (i := 10) rfl)
theorem mw107 : Cond.fieldLink RX9 35 "ReelChange$Text" "names" "[J" ∈ wsL_law0 := mL4 _ (List.mem_of_getElem? (i := 11) rfl)
theorem mw108 : Cond.classLink RX9 39 RX8 ∈ wsL_law0 := mL4 _ (List.mem_of_getElem? (i := 12) rfl)
theorem mw109 : Cond.methodLink RX9 41 yX8_init ∈ wsL_law0 := mL4 _ (List.mem_of_getElem? (i := 13) rfl)
theorem mw110 : Cond.fieldLink RX9 44 "ReelChange$Text" "named" "LReelChange$Table;" ∈ wsL_law0 := mL4 _ (List.mem_of_getElem? (i := 14) rfl)
theorem mw111 : Cond.fieldLink RX9 48 "ReelChange$Text" "kind" "I" ∈ wsL_law0 := mL4 _ (List.mem_of_getElem? (i := 15) rfl)
theorem mw112 : Cond.fieldLink RX9 51 "ReelChange$Text" "start" "I" ∈ wsL_law0 := mL4 _ (List.mem_of_getElem? (i := 16) rfl)
theorem mw113 : Cond.fieldLink RX9 54 "ReelChange$Text" "position" "I" ∈ wsL_law0 := mL4 _ (List.mem_of_getElem? (i := 17) rfl)
theorem mw114 : Cond.fieldLink RX9 57 "ReelChange$Text" "value" "I" ∈ wsL_law0 := mL4 _ (List.mem_of_getElem? (i := 18) rfl)
theorem mw115 : Cond.fieldLink RX9 60 "ReelChange$Text" "letters" "J" ∈ wsL_law0 := mL4 _ (List.mem_of_getElem? (i := 19) rfl)
theorem mw116 : Cond.fieldLink RX9 64 "ReelChange$Text" "taken" "I" ∈ wsL_law0 := mL4 _ (List.mem_of_getElem? (i := 20) rfl)
theorem mw117 : Cond.fieldLink RX9 67 "ReelChange$Text" "takenAt" "I" ∈ wsL_law0 := mL4 _ (List.mem_of_getElem? (i := 21) rfl)
theorem mw118 : Cond.methodLink RX10 1 objectInit ∈ wsL_law0 := mL4 _ (List.mem_of_getElem? (i := 22) rfl)
theorem mw119 : Cond.classLink RX10 7 RX9 ∈ wsL_law0 := mL4 _ (List.mem_of_getElem? (i := 23) rfl)
theorem mw120 : Cond.instantiable RX9 15 ∈ wsL_law0 := mL5 _ (List.mem_of_getElem? (i := 0) rfl)
theorem mw121 : Cond.initialized RX9 ∈ wsL_law0 := mL5 _ (List.mem_of_getElem? (i := 1) rfl)
theorem mw122 : Cond.instanceMethod yX9_init ∈ wsL_law0 := mL5 _ (List.mem_of_getElem? (i := 2) rfl)
theorem mw123 : Cond.code yX9_init cX9_init 1 none ∈ wsL_law0 := mL5 _ (List.mem_of_getElem? (i := 3) rfl)
theorem mw124 : Cond.fieldLink RX10 10 "ReelChange" "text" "LReelChange$Text;" ∈ wsL_law0 := mL5 _ (List.mem_of_getElem? (i := 4) rfl)
theorem mw125 : Cond.classLink RX10 16 RX3 ∈ wsL_law0 := mL5 _ (List.mem_of_getElem? (i := 5) rfl)
theorem mw126 : Cond.fieldLink RX10 19 "ReelChange" "told" "LReelChange$House;" ∈ wsL_law0 := mL5 _ (List.mem_of_getElem? (i := 6) rfl)
theorem mw127 : Cond.classLink RX10 23 RX7 ∈ wsL_law0 := mL5 _ (List.mem_of_getElem? (i := 7) rfl)
theorem mw128 : Cond.fieldLink RX10 26 "ReelChange" "now" "LReelChange$State;" ∈ wsL_law0 := mL5 _ (List.mem_of_getElem? (i := 8) rfl)
theorem mw129 : Cond.classLink RX10 30 RX4 ∈ wsL_law0 := mL5 _ (List.mem_of_getElem? (i := 9) rfl)
theorem mw130 : Cond.instantiable RX4 5 ∈ wsL_law0 := mL5 _ (List.mem_of_getElem? (i := 10) rfl)
theorem mw131 : Cond.initialized RX4 ∈ wsL_law0 := mL5 _ (List.mem_of_getElem? (i := 11) rfl)
theorem mw132 : Cond.methodLink RX10 32 yX4_init ∈ wsL_law0 := mL5 _ (List.mem_of_getElem? (i := 12) rfl)
theorem mw133 : Cond.instanceMethod yX4_init ∈ wsL_law0 := mL5 _ (List.mem_of_getElem? (i := 13) rfl)
theorem mw134 : Cond.code yX4_init cX4_init 2 none ∈ wsL_law0 := mL5 _ (List.mem_of_getElem? (i := 14) rfl)
theorem mw135 : Cond.fieldLink RX10 33 "ReelChange" "kept" "LReelChange$Kept;" ∈ wsL_law0 := mL5 _ (List.mem_of_getElem? (i := 15) rfl)
theorem mw136 : Cond.classLink RX10 37 RX5 ∈ wsL_law0 := mL5 _ (List.mem_of_getElem? (i := 16) rfl)
theorem mw137 : Cond.instantiable RX5 9 ∈ wsL_law0 := mL5 _ (List.mem_of_getElem? (i := 17) rfl)
theorem mw138 : Cond.initialized RX5 ∈ wsL_law0 := mL5 _ (List.mem_of_getElem? (i := 18) rfl)
theorem mw139 : Cond.instanceMethod yX5_init ∈ wsL_law0 := mL5 _ (List.mem_of_getElem? (i := 19) rfl)
theorem mw140 : Cond.code yX5_init cX5_init 1 none ∈ wsL_law0 := mL5 _ (List.mem_of_getElem? (i := 20) rfl)
theorem mw141 : Cond.fieldLink RX10 40 "ReelChange" "night" "LReelChange$Night;" ∈ wsL_law0 := mL5 _ (List.mem_of_getElem? (i := 21) rfl)
theorem mw142 : Cond.classLink RX10 44 RX0 ∈ wsL_law0 := mL5 _ (List.mem_of_getElem? (i := 22) rfl)
theorem mw143 : Cond.instantiable RX0 2 ∈ wsL_law0 := mL5 _ (List.mem_of_getElem? (i := 23) rfl)
theorem mw144 : Cond.initialized RX0 ∈ wsL_law0 := mL6 _ (List.mem_of_getElem? (i := 0) rfl)
theorem mw145 : Cond.instanceMethod yX0_init ∈ wsL_law0 := mL6 _ (List.mem_of_getElem? (i := 1) rfl)
theorem mw146 : Cond.code yX0_init cX0_init 1 none ∈ wsL_law0 := mL6 _ (List.mem_of_getElem? (i := 2) rfl)
theorem mw147 : Cond.fieldLink RX10 47 "ReelChange" "arcs" "LReelChange$Arcs;" ∈ wsL_law0 := mL6 _ (List.mem_of_getElem? (i := 3) rfl)
theorem mw148 : Cond.classLink RX10 51 RX6 ∈ wsL_law0 := mL6 _ (List.mem_of_getElem? (i := 4) rfl)
theorem mw149 : Cond.instantiable RX6 3 ∈ wsL_law0 := mL6 _ (List.mem_of_getElem? (i := 5) rfl)
theorem mw150 : Cond.initialized RX6 ∈ wsL_law0 := mL6 _ (List.mem_of_getElem? (i := 6) rfl)
theorem mw151 : Cond.instanceMethod yX6_init ∈ wsL_law0 := mL6 _ (List.mem_of_getElem? (i := 7) rfl)
theorem mw152 : Cond.code yX6_init cX6_init 1 none ∈ wsL_law0 := mL6 _ (List.mem_of_getElem? (i := 8) rfl)
theorem mw153 : Cond.fieldLink RX10 54 "ReelChange" "riders" "LReelChange$Riders;" ∈ wsL_law0 := mL6 _ (List.mem_of_getElem? (i := 9) rfl)
theorem mw154 : Cond.classLink RX10 58 RX1 ∈ wsL_law0 := mL6 _ (List.mem_of_getElem? (i := 10) rfl)
theorem mw155 : Cond.instantiable RX1 3 ∈ wsL_law0 := mL6 _ (List.mem_of_getElem? (i := 11) rfl)
theorem mw156 : Cond.initialized RX1 ∈ wsL_law0 := mL6 _ (List.mem_of_getElem? (i := 12) rfl)
theorem mw157 : Cond.instanceMethod yX1_init ∈ wsL_law0 := mL6 _ (List.mem_of_getElem? (i := 13) rfl)
theorem mw158 : Cond.code yX1_init cX1_init 1 none ∈ wsL_law0 := mL6 _ (List.mem_of_getElem? (i := 14) rfl)
theorem mw159 : Cond.fieldLink RX10 61 "ReelChange" "exchanger" "LReelChange$Exchanger;" ∈ wsL_law0 := mL6 _ (List.mem_of_getElem? (i := 15) rfl)
theorem mw160 : Cond.classLink RX10 65 RX2 ∈ wsL_law0 := mL6 _ (List.mem_of_getElem? (i := 16) rfl)
theorem mw161 : Cond.instantiable RX2 2 ∈ wsL_law0 := mL6 _ (List.mem_of_getElem? (i := 17) rfl)
theorem mw162 : Cond.initialized RX2 ∈ wsL_law0 := mL6 _ (List.mem_of_getElem? (i := 18) rfl)
theorem mw163 : Cond.instanceMethod yX2_init ∈ wsL_law0 := mL6 _ (List.mem_of_getElem? (i := 19) rfl)
theorem mw164 : Cond.code yX2_init cX2_init 1 none ∈ wsL_law0 := mL6 _ (List.mem_of_getElem? (i := 20) rfl)
theorem mw165 : Cond.fieldLink RX10 68 "ReelChange" "fraction" "LReelChange$Fraction;" ∈ wsL_law0 := mL6 _ (List.mem_of_getElem? (i := 21) rfl)
theorem mw166 : Cond.fieldLink RX10 72 "ReelChange" "latestTrouble" "I" ∈ wsL_law0 := mL6 _ (List.mem_of_getElem? (i := 22) rfl)
theorem mw167 : Cond.fieldLink RX10 109 "ReelChange$State" "places" "LReelChange$Table;" ∈ wsL_law0 := mL6 _ (List.mem_of_getElem? (i := 23) rfl)
theorem mw168 : Cond.fieldLink RX10 113 "ReelChange$Table" "count" "I" ∈ wsL_law0 := mL7 _ (List.mem_of_getElem? (i := 0) rfl)
theorem mw169 : Cond.fieldLink RX10 191 "ReelChange$House" "men" "LReelChange$Table;" ∈ wsL_law0 := mL7 _ (List.mem_of_getElem? (i := 1) rfl)
theorem mw170 : Cond.methodLink RX10 127 yX8_has ∈ wsL_law0 := mL7 _ (List.mem_of_getElem? (i := 2) rfl)
theorem mw171 : Cond.methodLink RX10 163 yX10_runNight ∈ wsL_law0 := mL7 _ (List.mem_of_getElem? (i := 3) rfl)
theorem mw172 : Cond.instanceMethod yX10_runNight ∈ wsL_law0 := mL7 _ (List.mem_of_getElem? (i := 4) rfl)
theorem mw173 : Cond.selects RX10 yX10_runNight yX10_runNight ∈ wsL_law0 := mL7 _ (List.mem_of_getElem? (i := 5) rfl)
theorem mw174 : Cond.initialized RX10 ∈ wsL_law0 := mL7 _ (List.mem_of_getElem? (i := 6) rfl)
theorem mw175 : Cond.code yX10_runNight cX10_runNight 2 (some .boolean) ∈ wsL_law0 := mL7 _ (List.mem_of_getElem? (i := 7) rfl)
theorem mw176 : Cond.methodLink RX10 83 yX10_refuse ∈ wsL_law0 := mL7 _ (List.mem_of_getElem? (i := 8) rfl)
theorem mw177 : Cond.instanceMethod yX10_refuse ∈ wsL_law0 := mL7 _ (List.mem_of_getElem? (i := 9) rfl)
theorem mw178 : Cond.selects RX10 yX10_refuse yX10_refuse ∈ wsL_law0 := mL7 _ (List.mem_of_getElem? (i := 10) rfl)
theorem mw179 : Cond.code yX10_refuse cX10_refuse 2 (some .int) ∈ wsL_law0 := mL7 _ (List.mem_of_getElem? (i := 11) rfl)
theorem mw180 : Cond.fieldLink RX10 90 "ReelChange$Text" "faultNumber" "I" ∈ wsL_law0 := mL7 _ (List.mem_of_getElem? (i := 12) rfl)
theorem mw181 : Cond.fieldLink RX10 124 "ReelChange$State" "reels" "LReelChange$Table;" ∈ wsL_law0 := mL7 _ (List.mem_of_getElem? (i := 13) rfl)
theorem mw182 : Cond.methodLink RX10 156 yX10_ofPlace ∈ wsL_law0 := mL7 _ (List.mem_of_getElem? (i := 14) rfl)
theorem mw183 : Cond.instanceMethod yX10_ofPlace ∈ wsL_law0 := mL7 _ (List.mem_of_getElem? (i := 15) rfl)
theorem mw184 : Cond.selects RX10 yX10_ofPlace yX10_ofPlace ∈ wsL_law0 := mL7 _ (List.mem_of_getElem? (i := 16) rfl)
theorem mw185 : Cond.code yX10_ofPlace cX10_ofPlace 3 (some .int) ∈ wsL_law0 := mL7 _ (List.mem_of_getElem? (i := 17) rfl)
theorem mw186 : Cond.methodLink RX10 159 yX10_ofNight ∈ wsL_law0 := mL7 _ (List.mem_of_getElem? (i := 18) rfl)
theorem mw187 : Cond.instanceMethod yX10_ofNight ∈ wsL_law0 := mL7 _ (List.mem_of_getElem? (i := 19) rfl)
theorem mw188 : Cond.selects RX10 yX10_ofNight yX10_ofNight ∈ wsL_law0 := mL7 _ (List.mem_of_getElem? (i := 20) rfl)
theorem mw189 : Cond.code yX10_ofNight cX10_ofNight 4 (some .int) ∈ wsL_law0 := mL7 _ (List.mem_of_getElem? (i := 21) rfl)
theorem mw190 : Cond.methodLink RX10 184 yX10_isOpen ∈ wsL_law0 := mL7 _ (List.mem_of_getElem? (i := 22) rfl)
theorem mw191 : Cond.instanceMethod yX10_isOpen ∈ wsL_law0 := mL7 _ (List.mem_of_getElem? (i := 23) rfl)
theorem mw192 : Cond.selects RX10 yX10_isOpen yX10_isOpen ∈ wsL_law0 := mL8 _ (List.mem_of_getElem? (i := 0) rfl)
theorem mw193 : Cond.code yX10_isOpen cX10_isOpen 1 (some .boolean) ∈ wsL_law0 := mL8 _ (List.mem_of_getElem? (i := 1) rfl)
theorem mw194 : Cond.methodLink RX10 337 yX10_refuseAct ∈ wsL_law0 := mL8 _ (List.mem_of_getElem? (i := 2) rfl)
theorem mw195 : Cond.instanceMethod yX10_refuseAct ∈ wsL_law0 := mL8 _ (List.mem_of_getElem? (i := 3) rfl)
theorem mw196 : Cond.selects RX10 yX10_refuseAct yX10_refuseAct ∈ wsL_law0 := mL8 _ (List.mem_of_getElem? (i := 4) rfl)
theorem mw197 : Cond.code yX10_refuseAct cX10_refuseAct 2 (some .boolean) ∈ wsL_law0 := mL8 _ (List.mem_of_getElem? (i := 5) rfl)
theorem mw198 : Cond.methodLink RX10 294 yX10_rideTrouble ∈ wsL_law0 := mL8 _ (List.mem_of_getElem? (i := 6) rfl)
theorem mw199 : Cond.instanceMethod yX10_rideTrouble ∈ wsL_law0 := mL8 _ (List.mem_of_getElem? (i := 7) rfl)
theorem mw200 : Cond.selects RX10 yX10_rideTrouble yX10_rideTrouble ∈ wsL_law0 := mL8 _ (List.mem_of_getElem? (i := 8) rfl)
theorem mw201 : Cond.code yX10_rideTrouble cX10_rideTrouble 4 (some .int) ∈ wsL_law0 := mL8 _ (List.mem_of_getElem? (i := 9) rfl)
theorem mw202 : Cond.fieldLink RX10 256 "ReelChange$House" "scratches" "LReelChange$Table;" ∈ wsL_law0 := mL8 _ (List.mem_of_getElem? (i := 10) rfl)
theorem mw203 : Cond.methodLink RX10 273 yX7_isWeak ∈ wsL_law0 := mL8 _ (List.mem_of_getElem? (i := 11) rfl)
theorem mw204 : Cond.instanceMethod yX7_isWeak ∈ wsL_law0 := mL8 _ (List.mem_of_getElem? (i := 12) rfl)
theorem mw205 : Cond.selects RX7 yX7_isWeak yX7_isWeak ∈ wsL_law0 := mL8 _ (List.mem_of_getElem? (i := 13) rfl)
theorem mw206 : Cond.code yX7_isWeak cX7_isWeak 2 (some .boolean) ∈ wsL_law0 := mL8 _ (List.mem_of_getElem? (i := 14) rfl)
theorem mw207 : Cond.fieldLink RX10 144 "ReelChange$State" "weaks" "LReelChange$Table;" ∈ wsL_law0 := mL8 _ (List.mem_of_getElem? (i := 15) rfl)
theorem mw208 : Cond.methodLink RX10 352 yX4_takeBack ∈ wsL_law0 := mL8 _ (List.mem_of_getElem? (i := 16) rfl)
theorem mw209 : Cond.instanceMethod yX4_takeBack ∈ wsL_law0 := mL8 _ (List.mem_of_getElem? (i := 17) rfl)
theorem mw210 : Cond.selects RX4 yX4_takeBack yX4_takeBack ∈ wsL_law0 := mL8 _ (List.mem_of_getElem? (i := 18) rfl)
theorem mw211 : Cond.code yX4_takeBack cX4_takeBack 2 (some .boolean) ∈ wsL_law0 := mL8 _ (List.mem_of_getElem? (i := 19) rfl)
theorem mw212 : Cond.methodLink RX10 359 yX4_goBack ∈ wsL_law0 := mL8 _ (List.mem_of_getElem? (i := 20) rfl)
theorem mw213 : Cond.instanceMethod yX4_goBack ∈ wsL_law0 := mL8 _ (List.mem_of_getElem? (i := 21) rfl)
theorem mw214 : Cond.selects RX4 yX4_goBack yX4_goBack ∈ wsL_law0 := mL8 _ (List.mem_of_getElem? (i := 22) rfl)
theorem mw215 : Cond.code yX4_goBack cX4_goBack 3 (some .boolean) ∈ wsL_law0 := mL8 _ (List.mem_of_getElem? (i := 23) rfl)
theorem mw216 : Cond.fieldLink RX10 76 "ReelChange$Text" "taped" "I" ∈ wsL_law0 := mL9 _ (List.mem_of_getElem? (i := 0) rfl)
theorem mw217 : Cond.methodLink RX10 79 yX9_write ∈ wsL_law0 := mL9 _ (List.mem_of_getElem? (i := 1) rfl)
theorem mw218 : Cond.instanceMethod yX9_write ∈ wsL_law0 := mL9 _ (List.mem_of_getElem? (i := 2) rfl)
theorem mw219 : Cond.selects RX9 yX9_write yX9_write ∈ wsL_law0 := mL9 _ (List.mem_of_getElem? (i := 3) rfl)
theorem mw220 : Cond.code yX9_write cX9_write 3 none ∈ wsL_law0 := mL9 _ (List.mem_of_getElem? (i := 4) rfl)
theorem mw221 : Cond.methodLink RX9 104 yX9_is ∈ wsL_law0 := mL9 _ (List.mem_of_getElem? (i := 5) rfl)
theorem mw222 : Cond.instanceMethod yX9_is ∈ wsL_law0 := mL9 _ (List.mem_of_getElem? (i := 6) rfl)
theorem mw223 : Cond.selects RX9 yX9_is yX9_is ∈ wsL_law0 := mL9 _ (List.mem_of_getElem? (i := 7) rfl)
theorem mw224 : Cond.code yX9_is cX9_is 3 (some .boolean) ∈ wsL_law0 := mL9 _ (List.mem_of_getElem? (i := 8) rfl)
theorem mw225 : Cond.methodLink RX9 298 yX9_kindAt ∈ wsL_law0 := mL9 _ (List.mem_of_getElem? (i := 9) rfl)
theorem mw226 : Cond.instanceMethod yX9_kindAt ∈ wsL_law0 := mL9 _ (List.mem_of_getElem? (i := 10) rfl)
theorem mw227 : Cond.selects RX9 yX9_kindAt yX9_kindAt ∈ wsL_law0 := mL9 _ (List.mem_of_getElem? (i := 11) rfl)
theorem mw228 : Cond.code yX9_kindAt cX9_kindAt 3 (some .int) ∈ wsL_law0 := mL9 _ (List.mem_of_getElem? (i := 12) rfl)
theorem mw229 : Cond.methodLink RX9 113 yX9_isReserved ∈ wsL_law0 := mL9 _ (List.mem_of_getElem? (i := 13) rfl)
theorem mw230 : Cond.instanceMethod yX9_isReserved ∈ wsL_law0 := mL9 _ (List.mem_of_getElem? (i := 14) rfl)
theorem mw231 : Cond.selects RX9 yX9_isReserved yX9_isReserved ∈ wsL_law0 := mL9 _ (List.mem_of_getElem? (i := 15) rfl)
theorem mw232 : Cond.code yX9_isReserved cX9_isReserved 1 (some .boolean) ∈ wsL_law0 := mL9 _ (List.mem_of_getElem? (i := 16) rfl)
theorem mw233 : Cond.methodLink RX9 84 yX9_refuseAt ∈ wsL_law0 := mL9 _ (List.mem_of_getElem? (i := 17) rfl)
theorem mw234 : Cond.instanceMethod yX9_refuseAt ∈ wsL_law0 := mL9 _ (List.mem_of_getElem? (i := 18) rfl)
theorem mw235 : Cond.selects RX9 yX9_refuseAt yX9_refuseAt ∈ wsL_law0 := mL9 _ (List.mem_of_getElem? (i := 19) rfl)
theorem mw236 : Cond.code yX9_refuseAt cX9_refuseAt 3 (some .boolean) ∈ wsL_law0 := mL9 _ (List.mem_of_getElem? (i := 20) rfl)
theorem mw237 : Cond.methodLink RX9 70 yX3_clear ∈ wsL_law0 := mL9 _ (List.mem_of_getElem? (i := 21) rfl)
theorem mw238 : Cond.instanceMethod yX3_clear ∈ wsL_law0 := mL9 _ (List.mem_of_getElem? (i := 22) rfl)
theorem mw239 : Cond.selects RX3 yX3_clear yX3_clear ∈ wsL_law0 := mL9 _ (List.mem_of_getElem? (i := 23) rfl)
theorem mw240 : Cond.code yX3_clear cX3_clear 1 none ∈ wsL_law0 := mL10 _ (List.mem_of_getElem? (i := 0) rfl)
theorem mw241 : Cond.methodLink RX9 73 yX8_clear ∈ wsL_law0 := mL10 _ (List.mem_of_getElem? (i := 1) rfl)
theorem mw242 : Cond.methodLink RX9 74 yX9_next ∈ wsL_law0 := mL10 _ (List.mem_of_getElem? (i := 2) rfl)
theorem mw243 : Cond.instanceMethod yX9_next ∈ wsL_law0 := mL10 _ (List.mem_of_getElem? (i := 3) rfl)
theorem mw244 : Cond.selects RX9 yX9_next yX9_next ∈ wsL_law0 := mL10 _ (List.mem_of_getElem? (i := 4) rfl)
theorem mw245 : Cond.code yX9_next cX9_next 1 none ∈ wsL_law0 := mL10 _ (List.mem_of_getElem? (i := 5) rfl)
theorem mw246 : Cond.methodLink RX9 77 yX9_isLine ∈ wsL_law0 := mL10 _ (List.mem_of_getElem? (i := 6) rfl)
theorem mw247 : Cond.instanceMethod yX9_isLine ∈ wsL_law0 := mL10 _ (List.mem_of_getElem? (i := 7) rfl)
theorem mw248 : Cond.selects RX9 yX9_isLine yX9_isLine ∈ wsL_law0 := mL10 _ (List.mem_of_getElem? (i := 8) rfl)
theorem mw249 : Cond.code yX9_isLine cX9_isLine 1 (some .boolean) ∈ wsL_law0 := mL10 _ (List.mem_of_getElem? (i := 9) rfl)
theorem mw250 : Cond.methodLink RX10 87 yX9_read ∈ wsL_law0 := mL10 _ (List.mem_of_getElem? (i := 10) rfl)
theorem mw251 : Cond.instanceMethod yX9_read ∈ wsL_law0 := mL10 _ (List.mem_of_getElem? (i := 11) rfl)
theorem mw252 : Cond.selects RX9 yX9_read yX9_read ∈ wsL_law0 := mL10 _ (List.mem_of_getElem? (i := 12) rfl)
theorem mw253 : Cond.code yX9_read cX9_read 4 none ∈ wsL_law0 := mL10 _ (List.mem_of_getElem? (i := 13) rfl)
theorem mw254 : Cond.methodLink RX11 1 objectInit ∈ wsL_law0 := mL10 _ (List.mem_of_getElem? (i := 14) rfl)
theorem mw255 : Cond.fieldLink RX11 7 "ReelChangeModel" "tape" "[I" ∈ wsL_law0 := mL10 _ (List.mem_of_getElem? (i := 15) rfl)
theorem mw256 : Cond.fieldLink RX11 13 "ReelChangeModel" "place" "I" ∈ wsL_law0 := mL10 _ (List.mem_of_getElem? (i := 16) rfl)
theorem mw257 : Cond.fieldLink RX11 17 "ReelChangeModel" "letters" "[I" ∈ wsL_law0 := mL10 _ (List.mem_of_getElem? (i := 17) rfl)
theorem mw258 : Cond.fieldLink RX11 20 "ReelChangeModel" "\x72" "[I" ∈ wsL_law0 := mL10 _ (List.mem_of_getElem? (i := 18) rfl)
theorem mw259 : Cond.fieldLink RX11 23 "ReelChangeModel" "fresh" "[I" ∈ wsL_law0 := mL10 _ (List.mem_of_getElem? (i := 19) rfl)
theorem mw260 : Cond.fieldLink RX11 26 "ReelChangeModel" "st" "[I" ∈ wsL_law0 := mL10 _ (List.mem_of_getElem? (i := 20) rfl)
theorem mw261 : Cond.fieldLink RX11 29 "ReelChangeModel" "undone" "[I" ∈ wsL_law0 := mL10 _ (List.mem_of_getElem? (i := 21) rfl)
theorem mw262 : Cond.fieldLink RX11 32 "ReelChangeModel" "kept" "[I" ∈ wsL_law0 := mL10 _ (List.mem_of_getElem? (i := 22) rfl)
theorem mw263 : Cond.fieldLink RX11 35 "ReelChangeModel" "from" "[I" ∈ wsL_law0 := mL10 _ (List.mem_of_getElem? (i := 23) rfl)
theorem mw264 : Cond.fieldLink RX11 38 "ReelChangeModel" "begin" "[I" ∈ wsL_law0 := mL11 _ (List.mem_of_getElem? (i := 0) rfl)
theorem mw265 : Cond.fieldLink RX11 41 "ReelChangeModel" "motor" "[I" ∈ wsL_law0 := mL11 _ (List.mem_of_getElem? (i := 1) rfl)
theorem mw266 : Cond.fieldLink RX11 44 "ReelChangeModel" "change" "[I" ∈ wsL_law0 := mL11 _ (List.mem_of_getElem? (i := 2) rfl)
theorem mw267 : Cond.fieldLink RX11 47 "ReelChangeModel" "startFrame" "[I" ∈ wsL_law0 := mL11 _ (List.mem_of_getElem? (i := 3) rfl)
theorem mw268 : Cond.fieldLink RX11 50 "ReelChangeModel" "changeFrame" "[I" ∈ wsL_law0 := mL11 _ (List.mem_of_getElem? (i := 4) rfl)
theorem mw269 : Cond.fieldLink RX11 53 "ReelChangeModel" "lostAt" "[I" ∈ wsL_law0 := mL11 _ (List.mem_of_getElem? (i := 5) rfl)
theorem mw270 : Cond.fieldLink RX11 56 "ReelChangeModel" "blackAt" "[I" ∈ wsL_law0 := mL11 _ (List.mem_of_getElem? (i := 6) rfl)
theorem mw271 : Cond.fieldLink RX11 59 "ReelChangeModel" "slips" "[I" ∈ wsL_law0 := mL11 _ (List.mem_of_getElem? (i := 7) rfl)
theorem mw272 : Cond.fieldLink RX11 62 "ReelChangeModel" "leftArc" "[I" ∈ wsL_law0 := mL11 _ (List.mem_of_getElem? (i := 8) rfl)
theorem mw273 : Cond.fieldLink RX11 65 "ReelChangeModel" "died" "[I" ∈ wsL_law0 := mL11 _ (List.mem_of_getElem? (i := 9) rfl)
theorem mw274 : Cond.fieldLink RX11 68 "ReelChangeModel" "arcs" "[I" ∈ wsL_law0 := mL11 _ (List.mem_of_getElem? (i := 10) rfl)
theorem mw275 : Cond.fieldLink RX11 71 "ReelChangeModel" "there" "[I" ∈ wsL_law0 := mL11 _ (List.mem_of_getElem? (i := 11) rfl)
theorem mw276 : Cond.fieldLink RX11 74 "ReelChangeModel" "backAt" "[I" ∈ wsL_law0 := mL11 _ (List.mem_of_getElem? (i := 12) rfl)
theorem mw277 : Cond.fieldLink RX11 77 "ReelChangeModel" "sorted" "[I" ∈ wsL_law0 := mL11 _ (List.mem_of_getElem? (i := 13) rfl)
theorem mw278 : Cond.fieldLink RX11 80 "ReelChangeModel" "parts" "[I" ∈ wsL_law0 := mL11 _ (List.mem_of_getElem? (i := 14) rfl)
theorem mw279 : Cond.fieldLink RX11 83 "ReelChangeModel" "thrown" "I" ∈ wsL_law0 := mL11 _ (List.mem_of_getElem? (i := 15) rfl)
theorem mw280 : Cond.fieldLink RX11 86 "ReelChangeModel" "trouble" "I" ∈ wsL_law0 := mL11 _ (List.mem_of_getElem? (i := 16) rfl)
theorem mw281 : Cond.fieldLink RX11 213 "ReelChangeModel" "hasHouse" "Z" ∈ wsL_law0 := mL11 _ (List.mem_of_getElem? (i := 17) rfl)
theorem mw282 : Cond.methodLink RX11 370 yX11_isMan ∈ wsL_law0 := mL11 _ (List.mem_of_getElem? (i := 18) rfl)
theorem mw283 : Cond.instanceMethod yX11_isMan ∈ wsL_law0 := mL11 _ (List.mem_of_getElem? (i := 19) rfl)
theorem mw284 : Cond.selects RX11 yX11_isMan yX11_isMan ∈ wsL_law0 := mL11 _ (List.mem_of_getElem? (i := 20) rfl)
theorem mw285 : Cond.initialized RX11 ∈ wsL_law0 := mL11 _ (List.mem_of_getElem? (i := 21) rfl)
theorem mw286 : Cond.code yX11_isMan cX11_isMan 2 (some .boolean) ∈ wsL_law0 := mL11 _ (List.mem_of_getElem? (i := 22) rfl)
theorem mw287 : Cond.fieldLink RX11 125 "ReelChangeModel" "fault" "I" ∈ wsL_law0 := mL11 _ (List.mem_of_getElem? (i := 23) rfl)
theorem mw288 : Cond.methodLink RX11 200 yX11_good ∈ wsL_law0 := mL12 _ (List.mem_of_getElem? (i := 0) rfl)
theorem mw289 : Cond.instanceMethod yX11_good ∈ wsL_law0 := mL12 _ (List.mem_of_getElem? (i := 1) rfl)
theorem mw290 : Cond.selects RX11 yX11_good yX11_good ∈ wsL_law0 := mL12 _ (List.mem_of_getElem? (i := 2) rfl)
theorem mw291 : Cond.code yX11_good cX11_good 1 none ∈ wsL_law0 := mL12 _ (List.mem_of_getElem? (i := 3) rfl)
theorem mw292 : Cond.methodLink RX11 327 yX11_isReel ∈ wsL_law0 := mL12 _ (List.mem_of_getElem? (i := 4) rfl)
theorem mw293 : Cond.instanceMethod yX11_isReel ∈ wsL_law0 := mL12 _ (List.mem_of_getElem? (i := 5) rfl)
theorem mw294 : Cond.selects RX11 yX11_isReel yX11_isReel ∈ wsL_law0 := mL12 _ (List.mem_of_getElem? (i := 6) rfl)
theorem mw295 : Cond.code yX11_isReel cX11_isReel 2 (some .boolean) ∈ wsL_law0 := mL12 _ (List.mem_of_getElem? (i := 7) rfl)
theorem mw296 : Cond.methodLink RX11 203 yX11_no ∈ wsL_law0 := mL12 _ (List.mem_of_getElem? (i := 8) rfl)
theorem mw297 : Cond.instanceMethod yX11_no ∈ wsL_law0 := mL12 _ (List.mem_of_getElem? (i := 9) rfl)
theorem mw298 : Cond.selects RX11 yX11_no yX11_no ∈ wsL_law0 := mL12 _ (List.mem_of_getElem? (i := 10) rfl)
theorem mw299 : Cond.code yX11_no cX11_no 2 (some .int) ∈ wsL_law0 := mL12 _ (List.mem_of_getElem? (i := 11) rfl)
theorem mw300 : Cond.methodLink RX11 345 yX11_isPlace ∈ wsL_law0 := mL12 _ (List.mem_of_getElem? (i := 12) rfl)
theorem mw301 : Cond.instanceMethod yX11_isPlace ∈ wsL_law0 := mL12 _ (List.mem_of_getElem? (i := 13) rfl)
theorem mw302 : Cond.selects RX11 yX11_isPlace yX11_isPlace ∈ wsL_law0 := mL12 _ (List.mem_of_getElem? (i := 14) rfl)
theorem mw303 : Cond.code yX11_isPlace cX11_isPlace 2 (some .boolean) ∈ wsL_law0 := mL12 _ (List.mem_of_getElem? (i := 15) rfl)
theorem mw304 : Cond.methodLink RX11 376 yX11_canTell ∈ wsL_law0 := mL12 _ (List.mem_of_getElem? (i := 16) rfl)
theorem mw305 : Cond.instanceMethod yX11_canTell ∈ wsL_law0 := mL12 _ (List.mem_of_getElem? (i := 17) rfl)
theorem mw306 : Cond.selects RX11 yX11_canTell yX11_canTell ∈ wsL_law0 := mL12 _ (List.mem_of_getElem? (i := 18) rfl)
theorem mw307 : Cond.code yX11_canTell cX11_canTell 3 (some .boolean) ∈ wsL_law0 := mL12 _ (List.mem_of_getElem? (i := 19) rfl)
theorem mw308 : Cond.methodLink RX11 182 yX11_in ∈ wsL_law0 := mL12 _ (List.mem_of_getElem? (i := 20) rfl)
theorem mw309 : Cond.static yX11_in ∈ wsL_law0 := mL12 _ (List.mem_of_getElem? (i := 21) rfl)
theorem mw310 : Cond.code yX11_in cX11_in 3 (some .boolean) ∈ wsL_law0 := mL12 _ (List.mem_of_getElem? (i := 22) rfl)
theorem mw311 : Cond.methodLink RX11 446 yX11_boyWhy ∈ wsL_law0 := mL12 _ (List.mem_of_getElem? (i := 23) rfl)
theorem mw312 : Cond.instanceMethod yX11_boyWhy ∈ wsL_law0 := mL13 _ (List.mem_of_getElem? (i := 0) rfl)
theorem mw313 : Cond.selects RX11 yX11_boyWhy yX11_boyWhy ∈ wsL_law0 := mL13 _ (List.mem_of_getElem? (i := 1) rfl)
theorem mw314 : Cond.code yX11_boyWhy cX11_boyWhy 2 (some .int) ∈ wsL_law0 := mL13 _ (List.mem_of_getElem? (i := 2) rfl)
theorem mw315 : Cond.methodLink RX11 440 yX11_layScratch ∈ wsL_law0 := mL13 _ (List.mem_of_getElem? (i := 3) rfl)
theorem mw316 : Cond.instanceMethod yX11_layScratch ∈ wsL_law0 := mL13 _ (List.mem_of_getElem? (i := 4) rfl)
theorem mw317 : Cond.selects RX11 yX11_layScratch yX11_layScratch ∈ wsL_law0 := mL13 _ (List.mem_of_getElem? (i := 5) rfl)
theorem mw318 : Cond.code yX11_layScratch cX11_layScratch 4 (some .boolean) ∈ wsL_law0 := mL13 _ (List.mem_of_getElem? (i := 6) rfl)
theorem mw319 : Cond.methodLink RX11 412 yX11_isWeak ∈ wsL_law0 := mL13 _ (List.mem_of_getElem? (i := 7) rfl)
theorem mw320 : Cond.instanceMethod yX11_isWeak ∈ wsL_law0 := mL13 _ (List.mem_of_getElem? (i := 8) rfl)
theorem mw321 : Cond.selects RX11 yX11_isWeak yX11_isWeak ∈ wsL_law0 := mL13 _ (List.mem_of_getElem? (i := 9) rfl)
theorem mw322 : Cond.code yX11_isWeak cX11_isWeak 2 (some .boolean) ∈ wsL_law0 := mL13 _ (List.mem_of_getElem? (i := 10) rfl)
theorem mw323 : Cond.methodLink RX11 473 yX11_isNot ∈ wsL_law0 := mL13 _ (List.mem_of_getElem? (i := 11) rfl)
theorem mw324 : Cond.instanceMethod yX11_isNot ∈ wsL_law0 := mL13 _ (List.mem_of_getElem? (i := 12) rfl)
theorem mw325 : Cond.selects RX11 yX11_isNot yX11_isNot ∈ wsL_law0 := mL13 _ (List.mem_of_getElem? (i := 13) rfl)
theorem mw326 : Cond.code yX11_isNot cX11_isNot 2 (some .boolean) ∈ wsL_law0 := mL13 _ (List.mem_of_getElem? (i := 14) rfl)
theorem mw327 : Cond.fieldLink RX11 216 "ReelChangeModel" "undos" "I" ∈ wsL_law0 := mL13 _ (List.mem_of_getElem? (i := 15) rfl)
theorem mw328 : Cond.fieldLink RX11 219 "ReelChangeModel" "images" "I" ∈ wsL_law0 := mL13 _ (List.mem_of_getElem? (i := 16) rfl)
theorem mw329 : Cond.fieldLink RX11 89 "ReelChangeModel" "taped" "I" ∈ wsL_law0 := mL13 _ (List.mem_of_getElem? (i := 17) rfl)
theorem mw330 : Cond.fieldLink RX11 121 "ReelChangeModel" "failed" "Z" ∈ wsL_law0 := mL13 _ (List.mem_of_getElem? (i := 18) rfl)
theorem mw331 : Cond.fieldLink RX11 111 "ReelChangeModel" "token" "I" ∈ wsL_law0 := mL13 _ (List.mem_of_getElem? (i := 19) rfl)
theorem mw332 : Cond.methodLink RX11 138 yX11_isWord ∈ wsL_law0 := mL13 _ (List.mem_of_getElem? (i := 20) rfl)
theorem mw333 : Cond.instanceMethod yX11_isWord ∈ wsL_law0 := mL13 _ (List.mem_of_getElem? (i := 21) rfl)
theorem mw334 : Cond.selects RX11 yX11_isWord yX11_isWord ∈ wsL_law0 := mL13 _ (List.mem_of_getElem? (i := 22) rfl)
theorem mw335 : Cond.code yX11_isWord cX11_isWord 4 (some .boolean) ∈ wsL_law0 := mL13 _ (List.mem_of_getElem? (i := 23) rfl)
theorem mw336 : Cond.fieldLink RX11 92 "ReelChangeModel" "size" "I" ∈ wsL_law0 := mL14 _ (List.mem_of_getElem? (i := 0) rfl)
theorem mw337 : Cond.fieldLink RX11 95 "ReelChangeModel" "end" "I" ∈ wsL_law0 := mL14 _ (List.mem_of_getElem? (i := 1) rfl)
theorem mw338 : Cond.methodLink RX11 98 yX11_look ∈ wsL_law0 := mL14 _ (List.mem_of_getElem? (i := 2) rfl)
theorem mw339 : Cond.instanceMethod yX11_look ∈ wsL_law0 := mL14 _ (List.mem_of_getElem? (i := 3) rfl)
theorem mw340 : Cond.selects RX11 yX11_look yX11_look ∈ wsL_law0 := mL14 _ (List.mem_of_getElem? (i := 4) rfl)
theorem mw341 : Cond.code yX11_look cX11_look 2 (some .int) ∈ wsL_law0 := mL14 _ (List.mem_of_getElem? (i := 5) rfl)
theorem mw342 : Cond.fieldLink RX11 102 "ReelChangeModel" "at" "I" ∈ wsL_law0 := mL14 _ (List.mem_of_getElem? (i := 6) rfl)
theorem mw343 : Cond.fieldLink RX11 105 "ReelChangeModel" "nameSize" "I" ∈ wsL_law0 := mL14 _ (List.mem_of_getElem? (i := 7) rfl)
theorem mw344 : Cond.fieldLink RX11 108 "ReelChangeModel" "whole" "I" ∈ wsL_law0 := mL14 _ (List.mem_of_getElem? (i := 8) rfl)
theorem mw345 : Cond.methodLink RX11 225 yX11_opens ∈ wsL_law0 := mL14 _ (List.mem_of_getElem? (i := 9) rfl)
theorem mw346 : Cond.instanceMethod yX11_opens ∈ wsL_law0 := mL14 _ (List.mem_of_getElem? (i := 10) rfl)
theorem mw347 : Cond.selects RX11 yX11_opens yX11_opens ∈ wsL_law0 := mL14 _ (List.mem_of_getElem? (i := 11) rfl)
theorem mw348 : Cond.code yX11_opens cX11_opens 3 (some .boolean) ∈ wsL_law0 := mL14 _ (List.mem_of_getElem? (i := 12) rfl)
theorem mw349 : Cond.methodLink RX11 247 yX11_opensOnce ∈ wsL_law0 := mL14 _ (List.mem_of_getElem? (i := 13) rfl)
theorem mw350 : Cond.instanceMethod yX11_opensOnce ∈ wsL_law0 := mL14 _ (List.mem_of_getElem? (i := 14) rfl)
theorem mw351 : Cond.selects RX11 yX11_opensOnce yX11_opensOnce ∈ wsL_law0 := mL14 _ (List.mem_of_getElem? (i := 15) rfl)
theorem mw352 : Cond.code yX11_opensOnce cX11_opensOnce 3 (some .boolean) ∈ wsL_law0 := mL14 _ (List.mem_of_getElem? (i := 16) rfl)
theorem mw353 : Cond.methodLink RX11 148 yX11_bad ∈ wsL_law0 := mL14 _ (List.mem_of_getElem? (i := 17) rfl)
theorem mw354 : Cond.instanceMethod yX11_bad ∈ wsL_law0 := mL14 _ (List.mem_of_getElem? (i := 18) rfl)
theorem mw355 : Cond.selects RX11 yX11_bad yX11_bad ∈ wsL_law0 := mL14 _ (List.mem_of_getElem? (i := 19) rfl)
theorem mw356 : Cond.code yX11_bad cX11_bad 3 none ∈ wsL_law0 := mL14 _ (List.mem_of_getElem? (i := 20) rfl)
theorem mw357 : Cond.methodLink RX11 142 yX11_next ∈ wsL_law0 := mL14 _ (List.mem_of_getElem? (i := 21) rfl)
theorem mw358 : Cond.instanceMethod yX11_next ∈ wsL_law0 := mL14 _ (List.mem_of_getElem? (i := 22) rfl)
theorem mw359 : Cond.selects RX11 yX11_next yX11_next ∈ wsL_law0 := mL14 _ (List.mem_of_getElem? (i := 23) rfl)
theorem mw360 : Cond.code yX11_next cX11_next 4 none ∈ wsL_law0 := mL15 _ (List.mem_of_getElem? (i := 0) rfl)
theorem mw361 : Cond.methodLink RX11 206 yX11_readLine ∈ wsL_law0 := mL15 _ (List.mem_of_getElem? (i := 1) rfl)
theorem mw362 : Cond.instanceMethod yX11_readLine ∈ wsL_law0 := mL15 _ (List.mem_of_getElem? (i := 2) rfl)
theorem mw363 : Cond.selects RX11 yX11_readLine yX11_readLine ∈ wsL_law0 := mL15 _ (List.mem_of_getElem? (i := 3) rfl)
theorem mw364 : Cond.code yX11_readLine cX11_readLine 1 none ∈ wsL_law0 := mL15 _ (List.mem_of_getElem? (i := 4) rfl)
theorem mw365 : Cond.methodLink RX3 43 yX8_at ∈ wsL_law0 := mL15 _ (List.mem_of_getElem? (i := 5) rfl)
theorem mw366 : Cond.instanceMethod yX8_at ∈ wsL_law0 := mL15 _ (List.mem_of_getElem? (i := 6) rfl)
theorem mw367 : Cond.selects RX8 yX8_at yX8_at ∈ wsL_law0 := mL15 _ (List.mem_of_getElem? (i := 7) rfl)
theorem mw368 : Cond.code yX8_at cX8_at 3 (some .int) ∈ wsL_law0 := mL15 _ (List.mem_of_getElem? (i := 8) rfl)
theorem mw369 : Cond.constant RJ6 265 (1431655765) ∈ wsL_law0 := mL15 _ (List.mem_of_getElem? (i := 9) rfl)
theorem mw370 : Cond.constant RJ6 266 (858993459) ∈ wsL_law0 := mL15 _ (List.mem_of_getElem? (i := 10) rfl)
theorem mw371 : Cond.constant RJ6 267 (252645135) ∈ wsL_law0 := mL15 _ (List.mem_of_getElem? (i := 11) rfl)
theorem mw372 : Cond.fieldLink RX10 150 "ReelChange$House" "towns" "LReelChange$Table;" ∈ wsL_law0 := mL15 _ (List.mem_of_getElem? (i := 12) rfl)
theorem mw373 : Cond.fieldLink RX10 131 "ReelChange$State" "marks" "LReelChange$Table;" ∈ wsL_law0 := mL15 _ (List.mem_of_getElem? (i := 13) rfl)
theorem mw374 : Cond.fieldLink RX10 138 "ReelChange$House" "joins" "LReelChange$Table;" ∈ wsL_law0 := mL15 _ (List.mem_of_getElem? (i := 14) rfl)
theorem mw375 : Cond.fieldLink RX10 366 "ReelChange$State" "mended" "I" ∈ wsL_law0 := mL15 _ (List.mem_of_getElem? (i := 15) rfl)
theorem mw376 : Cond.methodLink RX10 369 yJ6_bitCount_0f7a4 ∈ wsL_law0 := mL15 _ (List.mem_of_getElem? (i := 16) rfl)
theorem mw377 : Cond.static yJ6_bitCount_0f7a4 ∈ wsL_law0 := mL15 _ (List.mem_of_getElem? (i := 17) rfl)
theorem mw378 : Cond.initialized RJ6 ∈ wsL_law0 := mL15 _ (List.mem_of_getElem? (i := 18) rfl)
theorem mw379 : Cond.code yJ6_bitCount_0f7a4 cJ6_bitCount_0f7a4 1 (some .int) ∈ wsL_law0 := mL15 _ (List.mem_of_getElem? (i := 19) rfl)
theorem mw380 : Cond.fieldLink RX10 188 "ReelChange$House" "signs" "LReelChange$Table;" ∈ wsL_law0 := mL15 _ (List.mem_of_getElem? (i := 20) rfl)
theorem mw381 : Cond.fieldLink RX10 372 "ReelChange$Kept" "acts" "I" ∈ wsL_law0 := mL15 _ (List.mem_of_getElem? (i := 21) rfl)
theorem mw382 : Cond.fieldLink RX10 375 "ReelChange$Kept" "imaged" "I" ∈ wsL_law0 := mL15 _ (List.mem_of_getElem? (i := 22) rfl)
theorem mw383 : Cond.methodLink RX10 287 yX3_number ∈ wsL_law0 := mL15 _ (List.mem_of_getElem? (i := 23) rfl)
theorem mw384 : Cond.instanceMethod yX3_number ∈ wsL_law0 := mL16 _ (List.mem_of_getElem? (i := 0) rfl)
theorem mw385 : Cond.selects RX3 yX3_number yX3_number ∈ wsL_law0 := mL16 _ (List.mem_of_getElem? (i := 1) rfl)
theorem mw386 : Cond.code yX3_number cX3_number 2 (some .int) ∈ wsL_law0 := mL16 _ (List.mem_of_getElem? (i := 2) rfl)
theorem mw387 : Cond.classLink RL 8 RX10 ∈ wsL_law0 := mL16 _ (List.mem_of_getElem? (i := 3) rfl)
theorem mw388 : Cond.instantiable RX10 10 ∈ wsL_law0 := mL16 _ (List.mem_of_getElem? (i := 4) rfl)
theorem mw389 : Cond.methodLink RL 15 yX10_init ∈ wsL_law0 := mL16 _ (List.mem_of_getElem? (i := 5) rfl)
theorem mw390 : Cond.instanceMethod yX10_init ∈ wsL_law0 := mL16 _ (List.mem_of_getElem? (i := 6) rfl)
theorem mw391 : Cond.code yX10_init cX10_init 1 none ∈ wsL_law0 := mL16 _ (List.mem_of_getElem? (i := 7) rfl)
theorem mw392 : Cond.classLink RL 16 RX11 ∈ wsL_law0 := mL16 _ (List.mem_of_getElem? (i := 8) rfl)
theorem mw393 : Cond.instantiable RX11 43 ∈ wsL_law0 := mL16 _ (List.mem_of_getElem? (i := 9) rfl)
theorem mw394 : Cond.methodLink RL 18 yX11_init ∈ wsL_law0 := mL16 _ (List.mem_of_getElem? (i := 10) rfl)
theorem mw395 : Cond.instanceMethod yX11_init ∈ wsL_law0 := mL16 _ (List.mem_of_getElem? (i := 11) rfl)
theorem mw396 : Cond.code yX11_init cX11_init 1 none ∈ wsL_law0 := mL16 _ (List.mem_of_getElem? (i := 12) rfl)
theorem mw397 : Cond.methodLink RL 19 yX10_feed ∈ wsL_law0 := mL16 _ (List.mem_of_getElem? (i := 13) rfl)
theorem mw398 : Cond.instanceMethod yX10_feed ∈ wsL_law0 := mL16 _ (List.mem_of_getElem? (i := 14) rfl)
theorem mw399 : Cond.selects RX10 yX10_feed yX10_feed ∈ wsL_law0 := mL16 _ (List.mem_of_getElem? (i := 15) rfl)
theorem mw400 : Cond.code yX10_feed cX10_feed 6 (some .int) ∈ wsL_law0 := mL16 _ (List.mem_of_getElem? (i := 16) rfl)
theorem mw401 : Cond.methodLink RL 23 yX11_feed ∈ wsL_law0 := mL16 _ (List.mem_of_getElem? (i := 17) rfl)
theorem mw402 : Cond.instanceMethod yX11_feed ∈ wsL_law0 := mL16 _ (List.mem_of_getElem? (i := 18) rfl)
theorem mw403 : Cond.selects RX11 yX11_feed yX11_feed ∈ wsL_law0 := mL16 _ (List.mem_of_getElem? (i := 19) rfl)
theorem mw404 : Cond.code yX11_feed cX11_feed 8 (some .int) ∈ wsL_law0 := mL16 _ (List.mem_of_getElem? (i := 20) rfl)
theorem mw405 : Cond.methodLink RL 24 yX10_house ∈ wsL_law0 := mL16 _ (List.mem_of_getElem? (i := 21) rfl)
theorem mw406 : Cond.instanceMethod yX10_house ∈ wsL_law0 := mL16 _ (List.mem_of_getElem? (i := 22) rfl)
theorem mw407 : Cond.selects RX10 yX10_house yX10_house ∈ wsL_law0 := mL16 _ (List.mem_of_getElem? (i := 23) rfl)
theorem mw408 : Cond.code yX10_house cX10_house 2 (some .int) ∈ wsL_law0 := mL17 _ (List.mem_of_getElem? (i := 0) rfl)
theorem mw409 : Cond.methodLink RL 27 yX11_house ∈ wsL_law0 := mL17 _ (List.mem_of_getElem? (i := 1) rfl)
theorem mw410 : Cond.instanceMethod yX11_house ∈ wsL_law0 := mL17 _ (List.mem_of_getElem? (i := 2) rfl)
theorem mw411 : Cond.selects RX11 yX11_house yX11_house ∈ wsL_law0 := mL17 _ (List.mem_of_getElem? (i := 3) rfl)
theorem mw412 : Cond.code yX11_house cX11_house 3 (some .int) ∈ wsL_law0 := mL17 _ (List.mem_of_getElem? (i := 4) rfl)
theorem mw413 : Cond.methodLink RL 28 yX10_fault ∈ wsL_law0 := mL17 _ (List.mem_of_getElem? (i := 5) rfl)
theorem mw414 : Cond.instanceMethod yX10_fault ∈ wsL_law0 := mL17 _ (List.mem_of_getElem? (i := 6) rfl)
theorem mw415 : Cond.selects RX10 yX10_fault yX10_fault ∈ wsL_law0 := mL17 _ (List.mem_of_getElem? (i := 7) rfl)
theorem mw416 : Cond.code yX10_fault cX10_fault 1 (some .int) ∈ wsL_law0 := mL17 _ (List.mem_of_getElem? (i := 8) rfl)
theorem mw417 : Cond.methodLink RL 32 yX11_fault ∈ wsL_law0 := mL17 _ (List.mem_of_getElem? (i := 9) rfl)
theorem mw418 : Cond.instanceMethod yX11_fault ∈ wsL_law0 := mL17 _ (List.mem_of_getElem? (i := 10) rfl)
theorem mw419 : Cond.selects RX11 yX11_fault yX11_fault ∈ wsL_law0 := mL17 _ (List.mem_of_getElem? (i := 11) rfl)
theorem mw420 : Cond.code yX11_fault cX11_fault 1 (some .int) ∈ wsL_law0 := mL17 _ (List.mem_of_getElem? (i := 12) rfl)
theorem mw421 : Cond.methodLink RL 33 yX10_where ∈ wsL_law0 := mL17 _ (List.mem_of_getElem? (i := 13) rfl)
theorem mw422 : Cond.instanceMethod yX10_where ∈ wsL_law0 := mL17 _ (List.mem_of_getElem? (i := 14) rfl)
theorem mw423 : Cond.selects RX10 yX10_where yX10_where ∈ wsL_law0 := mL17 _ (List.mem_of_getElem? (i := 15) rfl)
theorem mw424 : Cond.code yX10_where cX10_where 1 (some .int) ∈ wsL_law0 := mL17 _ (List.mem_of_getElem? (i := 16) rfl)
theorem mw425 : Cond.methodLink RL 36 yX11_where ∈ wsL_law0 := mL17 _ (List.mem_of_getElem? (i := 17) rfl)
theorem mw426 : Cond.instanceMethod yX11_where ∈ wsL_law0 := mL17 _ (List.mem_of_getElem? (i := 18) rfl)
theorem mw427 : Cond.selects RX11 yX11_where yX11_where ∈ wsL_law0 := mL17 _ (List.mem_of_getElem? (i := 19) rfl)
theorem mw428 : Cond.code yX11_where cX11_where 1 (some .int) ∈ wsL_law0 := mL17 _ (List.mem_of_getElem? (i := 20) rfl)
theorem mw429 : Cond.methodLink RL 37 yX10_reel ∈ wsL_law0 := mL17 _ (List.mem_of_getElem? (i := 21) rfl)
theorem mw430 : Cond.instanceMethod yX10_reel ∈ wsL_law0 := mL17 _ (List.mem_of_getElem? (i := 22) rfl)
theorem mw431 : Cond.selects RX10 yX10_reel yX10_reel ∈ wsL_law0 := mL17 _ (List.mem_of_getElem? (i := 23) rfl)
theorem mw432 : Cond.code yX10_reel cX10_reel 3 (some .int) ∈ wsL_law0 := mL18 _ (List.mem_of_getElem? (i := 0) rfl)
theorem mw433 : Cond.methodLink RL 41 yX11_reel ∈ wsL_law0 := mL18 _ (List.mem_of_getElem? (i := 1) rfl)
theorem mw434 : Cond.instanceMethod yX11_reel ∈ wsL_law0 := mL18 _ (List.mem_of_getElem? (i := 2) rfl)
theorem mw435 : Cond.selects RX11 yX11_reel yX11_reel ∈ wsL_law0 := mL18 _ (List.mem_of_getElem? (i := 3) rfl)
theorem mw436 : Cond.code yX11_reel cX11_reel 3 (some .int) ∈ wsL_law0 := mL18 _ (List.mem_of_getElem? (i := 4) rfl)
theorem mw437 : Cond.methodLink RL 42 yX10_mark ∈ wsL_law0 := mL18 _ (List.mem_of_getElem? (i := 5) rfl)
theorem mw438 : Cond.instanceMethod yX10_mark ∈ wsL_law0 := mL18 _ (List.mem_of_getElem? (i := 6) rfl)
theorem mw439 : Cond.selects RX10 yX10_mark yX10_mark ∈ wsL_law0 := mL18 _ (List.mem_of_getElem? (i := 7) rfl)
theorem mw440 : Cond.code yX10_mark cX10_mark 3 (some .int) ∈ wsL_law0 := mL18 _ (List.mem_of_getElem? (i := 8) rfl)
theorem mw441 : Cond.methodLink RL 45 yX11_mark ∈ wsL_law0 := mL18 _ (List.mem_of_getElem? (i := 9) rfl)
theorem mw442 : Cond.instanceMethod yX11_mark ∈ wsL_law0 := mL18 _ (List.mem_of_getElem? (i := 10) rfl)
theorem mw443 : Cond.selects RX11 yX11_mark yX11_mark ∈ wsL_law0 := mL18 _ (List.mem_of_getElem? (i := 11) rfl)
theorem mw444 : Cond.code yX11_mark cX11_mark 3 (some .int) ∈ wsL_law0 := mL18 _ (List.mem_of_getElem? (i := 12) rfl)
theorem mw445 : Cond.methodLink RL 46 yX10_shows ∈ wsL_law0 := mL18 _ (List.mem_of_getElem? (i := 13) rfl)
theorem mw446 : Cond.instanceMethod yX10_shows ∈ wsL_law0 := mL18 _ (List.mem_of_getElem? (i := 14) rfl)
theorem mw447 : Cond.selects RX10 yX10_shows yX10_shows ∈ wsL_law0 := mL18 _ (List.mem_of_getElem? (i := 15) rfl)
theorem mw448 : Cond.code yX10_shows cX10_shows 2 (some .int) ∈ wsL_law0 := mL18 _ (List.mem_of_getElem? (i := 16) rfl)
theorem mw449 : Cond.methodLink RL 49 yX11_shows ∈ wsL_law0 := mL18 _ (List.mem_of_getElem? (i := 17) rfl)
theorem mw450 : Cond.instanceMethod yX11_shows ∈ wsL_law0 := mL18 _ (List.mem_of_getElem? (i := 18) rfl)
theorem mw451 : Cond.selects RX11 yX11_shows yX11_shows ∈ wsL_law0 := mL18 _ (List.mem_of_getElem? (i := 19) rfl)
theorem mw452 : Cond.code yX11_shows cX11_shows 2 (some .int) ∈ wsL_law0 := mL18 _ (List.mem_of_getElem? (i := 20) rfl)
theorem mw453 : Cond.methodLink RL 50 yX10_thread ∈ wsL_law0 := mL18 _ (List.mem_of_getElem? (i := 21) rfl)
theorem mw454 : Cond.instanceMethod yX10_thread ∈ wsL_law0 := mL18 _ (List.mem_of_getElem? (i := 22) rfl)
theorem mw455 : Cond.selects RX10 yX10_thread yX10_thread ∈ wsL_law0 := mL18 _ (List.mem_of_getElem? (i := 23) rfl)
theorem mw456 : Cond.code yX10_thread cX10_thread 2 (some .int) ∈ wsL_law0 := mL19 _ (List.mem_of_getElem? (i := 0) rfl)
theorem mw457 : Cond.methodLink RL 53 yX11_thread ∈ wsL_law0 := mL19 _ (List.mem_of_getElem? (i := 1) rfl)
theorem mw458 : Cond.instanceMethod yX11_thread ∈ wsL_law0 := mL19 _ (List.mem_of_getElem? (i := 2) rfl)
theorem mw459 : Cond.selects RX11 yX11_thread yX11_thread ∈ wsL_law0 := mL19 _ (List.mem_of_getElem? (i := 3) rfl)
theorem mw460 : Cond.code yX11_thread cX11_thread 2 (some .int) ∈ wsL_law0 := mL19 _ (List.mem_of_getElem? (i := 4) rfl)
theorem mw461 : Cond.methodLink RL 54 yX10_believes ∈ wsL_law0 := mL19 _ (List.mem_of_getElem? (i := 5) rfl)
theorem mw462 : Cond.instanceMethod yX10_believes ∈ wsL_law0 := mL19 _ (List.mem_of_getElem? (i := 6) rfl)
theorem mw463 : Cond.selects RX10 yX10_believes yX10_believes ∈ wsL_law0 := mL19 _ (List.mem_of_getElem? (i := 7) rfl)
theorem mw464 : Cond.code yX10_believes cX10_believes 3 (some .int) ∈ wsL_law0 := mL19 _ (List.mem_of_getElem? (i := 8) rfl)
theorem mw465 : Cond.methodLink RL 57 yX11_believes ∈ wsL_law0 := mL19 _ (List.mem_of_getElem? (i := 9) rfl)
theorem mw466 : Cond.instanceMethod yX11_believes ∈ wsL_law0 := mL19 _ (List.mem_of_getElem? (i := 10) rfl)
theorem mw467 : Cond.selects RX11 yX11_believes yX11_believes ∈ wsL_law0 := mL19 _ (List.mem_of_getElem? (i := 11) rfl)
theorem mw468 : Cond.code yX11_believes cX11_believes 3 (some .int) ∈ wsL_law0 := mL19 _ (List.mem_of_getElem? (i := 12) rfl)
theorem mw469 : Cond.methodLink RL 58 yX10_starts ∈ wsL_law0 := mL19 _ (List.mem_of_getElem? (i := 13) rfl)
theorem mw470 : Cond.instanceMethod yX10_starts ∈ wsL_law0 := mL19 _ (List.mem_of_getElem? (i := 14) rfl)
theorem mw471 : Cond.selects RX10 yX10_starts yX10_starts ∈ wsL_law0 := mL19 _ (List.mem_of_getElem? (i := 15) rfl)
theorem mw472 : Cond.code yX10_starts cX10_starts 3 (some .int) ∈ wsL_law0 := mL19 _ (List.mem_of_getElem? (i := 16) rfl)
theorem mw473 : Cond.methodLink RL 61 yX11_starts ∈ wsL_law0 := mL19 _ (List.mem_of_getElem? (i := 17) rfl)
theorem mw474 : Cond.instanceMethod yX11_starts ∈ wsL_law0 := mL19 _ (List.mem_of_getElem? (i := 18) rfl)
theorem mw475 : Cond.selects RX11 yX11_starts yX11_starts ∈ wsL_law0 := mL19 _ (List.mem_of_getElem? (i := 19) rfl)
theorem mw476 : Cond.code yX11_starts cX11_starts 3 (some .int) ∈ wsL_law0 := mL19 _ (List.mem_of_getElem? (i := 20) rfl)
theorem mw477 : Cond.methodLink RL 62 yX10_changes ∈ wsL_law0 := mL19 _ (List.mem_of_getElem? (i := 21) rfl)
theorem mw478 : Cond.instanceMethod yX10_changes ∈ wsL_law0 := mL19 _ (List.mem_of_getElem? (i := 22) rfl)
theorem mw479 : Cond.selects RX10 yX10_changes yX10_changes ∈ wsL_law0 := mL19 _ (List.mem_of_getElem? (i := 23) rfl)
theorem mw480 : Cond.code yX10_changes cX10_changes 3 (some .int) ∈ wsL_law0 := mL20 _ (List.mem_of_getElem? (i := 0) rfl)
theorem mw481 : Cond.methodLink RL 65 yX11_changes ∈ wsL_law0 := mL20 _ (List.mem_of_getElem? (i := 1) rfl)
theorem mw482 : Cond.instanceMethod yX11_changes ∈ wsL_law0 := mL20 _ (List.mem_of_getElem? (i := 2) rfl)
theorem mw483 : Cond.selects RX11 yX11_changes yX11_changes ∈ wsL_law0 := mL20 _ (List.mem_of_getElem? (i := 3) rfl)
theorem mw484 : Cond.code yX11_changes cX11_changes 3 (some .int) ∈ wsL_law0 := mL20 _ (List.mem_of_getElem? (i := 4) rfl)
theorem mw485 : Cond.methodLink RL 66 yX10_lost ∈ wsL_law0 := mL20 _ (List.mem_of_getElem? (i := 5) rfl)
theorem mw486 : Cond.instanceMethod yX10_lost ∈ wsL_law0 := mL20 _ (List.mem_of_getElem? (i := 6) rfl)
theorem mw487 : Cond.selects RX10 yX10_lost yX10_lost ∈ wsL_law0 := mL20 _ (List.mem_of_getElem? (i := 7) rfl)
theorem mw488 : Cond.code yX10_lost cX10_lost 3 (some .int) ∈ wsL_law0 := mL20 _ (List.mem_of_getElem? (i := 8) rfl)
theorem mw489 : Cond.methodLink RL 69 yX11_lost ∈ wsL_law0 := mL20 _ (List.mem_of_getElem? (i := 9) rfl)
theorem mw490 : Cond.instanceMethod yX11_lost ∈ wsL_law0 := mL20 _ (List.mem_of_getElem? (i := 10) rfl)
theorem mw491 : Cond.selects RX11 yX11_lost yX11_lost ∈ wsL_law0 := mL20 _ (List.mem_of_getElem? (i := 11) rfl)
theorem mw492 : Cond.code yX11_lost cX11_lost 3 (some .int) ∈ wsL_law0 := mL20 _ (List.mem_of_getElem? (i := 12) rfl)
theorem mw493 : Cond.methodLink RL 70 yX10_black ∈ wsL_law0 := mL20 _ (List.mem_of_getElem? (i := 13) rfl)
theorem mw494 : Cond.instanceMethod yX10_black ∈ wsL_law0 := mL20 _ (List.mem_of_getElem? (i := 14) rfl)
theorem mw495 : Cond.selects RX10 yX10_black yX10_black ∈ wsL_law0 := mL20 _ (List.mem_of_getElem? (i := 15) rfl)
theorem mw496 : Cond.code yX10_black cX10_black 3 (some .int) ∈ wsL_law0 := mL20 _ (List.mem_of_getElem? (i := 16) rfl)
theorem mw497 : Cond.methodLink RL 73 yX11_black ∈ wsL_law0 := mL20 _ (List.mem_of_getElem? (i := 17) rfl)
theorem mw498 : Cond.instanceMethod yX11_black ∈ wsL_law0 := mL20 _ (List.mem_of_getElem? (i := 18) rfl)
theorem mw499 : Cond.selects RX11 yX11_black yX11_black ∈ wsL_law0 := mL20 _ (List.mem_of_getElem? (i := 19) rfl)
theorem mw500 : Cond.code yX11_black cX11_black 3 (some .int) ∈ wsL_law0 := mL20 _ (List.mem_of_getElem? (i := 20) rfl)
theorem mw501 : Cond.methodLink RL 74 yX10_tail ∈ wsL_law0 := mL20 _ (List.mem_of_getElem? (i := 21) rfl)
theorem mw502 : Cond.instanceMethod yX10_tail ∈ wsL_law0 := mL20 _ (List.mem_of_getElem? (i := 22) rfl)
theorem mw503 : Cond.selects RX10 yX10_tail yX10_tail ∈ wsL_law0 := mL20 _ (List.mem_of_getElem? (i := 23) rfl)
theorem mw504 : Cond.code yX10_tail cX10_tail 3 (some .int) ∈ wsL_law0 := mL21 _ (List.mem_of_getElem? (i := 0) rfl)
theorem mw505 : Cond.methodLink RL 77 yX11_tail ∈ wsL_law0 := mL21 _ (List.mem_of_getElem? (i := 1) rfl)
theorem mw506 : Cond.instanceMethod yX11_tail ∈ wsL_law0 := mL21 _ (List.mem_of_getElem? (i := 2) rfl)
theorem mw507 : Cond.selects RX11 yX11_tail yX11_tail ∈ wsL_law0 := mL21 _ (List.mem_of_getElem? (i := 3) rfl)
theorem mw508 : Cond.code yX11_tail cX11_tail 3 (some .int) ∈ wsL_law0 := mL21 _ (List.mem_of_getElem? (i := 4) rfl)
theorem mw509 : Cond.methodLink RL 78 yX10_begins ∈ wsL_law0 := mL21 _ (List.mem_of_getElem? (i := 5) rfl)
theorem mw510 : Cond.instanceMethod yX10_begins ∈ wsL_law0 := mL21 _ (List.mem_of_getElem? (i := 6) rfl)
theorem mw511 : Cond.selects RX10 yX10_begins yX10_begins ∈ wsL_law0 := mL21 _ (List.mem_of_getElem? (i := 7) rfl)
theorem mw512 : Cond.code yX10_begins cX10_begins 3 (some .int) ∈ wsL_law0 := mL21 _ (List.mem_of_getElem? (i := 8) rfl)
theorem mw513 : Cond.methodLink RL 81 yX11_begins ∈ wsL_law0 := mL21 _ (List.mem_of_getElem? (i := 9) rfl)
theorem mw514 : Cond.instanceMethod yX11_begins ∈ wsL_law0 := mL21 _ (List.mem_of_getElem? (i := 10) rfl)
theorem mw515 : Cond.selects RX11 yX11_begins yX11_begins ∈ wsL_law0 := mL21 _ (List.mem_of_getElem? (i := 11) rfl)
theorem mw516 : Cond.code yX11_begins cX11_begins 3 (some .int) ∈ wsL_law0 := mL21 _ (List.mem_of_getElem? (i := 12) rfl)
theorem mw517 : Cond.methodLink RL 82 yX10_length ∈ wsL_law0 := mL21 _ (List.mem_of_getElem? (i := 13) rfl)
theorem mw518 : Cond.instanceMethod yX10_length ∈ wsL_law0 := mL21 _ (List.mem_of_getElem? (i := 14) rfl)
theorem mw519 : Cond.selects RX10 yX10_length yX10_length ∈ wsL_law0 := mL21 _ (List.mem_of_getElem? (i := 15) rfl)
theorem mw520 : Cond.code yX10_length cX10_length 2 (some .int) ∈ wsL_law0 := mL21 _ (List.mem_of_getElem? (i := 16) rfl)
theorem mw521 : Cond.methodLink RL 85 yX11_length ∈ wsL_law0 := mL21 _ (List.mem_of_getElem? (i := 17) rfl)
theorem mw522 : Cond.instanceMethod yX11_length ∈ wsL_law0 := mL21 _ (List.mem_of_getElem? (i := 18) rfl)
theorem mw523 : Cond.selects RX11 yX11_length yX11_length ∈ wsL_law0 := mL21 _ (List.mem_of_getElem? (i := 19) rfl)
theorem mw524 : Cond.code yX11_length cX11_length 2 (some .int) ∈ wsL_law0 := mL21 _ (List.mem_of_getElem? (i := 20) rfl)
theorem mw525 : Cond.methodLink RL 86 yX10_all ∈ wsL_law0 := mL21 _ (List.mem_of_getElem? (i := 21) rfl)
theorem mw526 : Cond.instanceMethod yX10_all ∈ wsL_law0 := mL21 _ (List.mem_of_getElem? (i := 22) rfl)
theorem mw527 : Cond.selects RX10 yX10_all yX10_all ∈ wsL_law0 := mL21 _ (List.mem_of_getElem? (i := 23) rfl)
theorem mw528 : Cond.code yX10_all cX10_all 3 (some .int) ∈ wsL_law0 := mL22 _ (List.mem_of_getElem? (i := 0) rfl)
theorem mw529 : Cond.methodLink RL 89 yX11_all ∈ wsL_law0 := mL22 _ (List.mem_of_getElem? (i := 1) rfl)
theorem mw530 : Cond.instanceMethod yX11_all ∈ wsL_law0 := mL22 _ (List.mem_of_getElem? (i := 2) rfl)
theorem mw531 : Cond.selects RX11 yX11_all yX11_all ∈ wsL_law0 := mL22 _ (List.mem_of_getElem? (i := 3) rfl)
theorem mw532 : Cond.code yX11_all cX11_all 3 (some .int) ∈ wsL_law0 := mL22 _ (List.mem_of_getElem? (i := 4) rfl)
theorem mw533 : Cond.methodLink RL 90 yX10_worst ∈ wsL_law0 := mL22 _ (List.mem_of_getElem? (i := 5) rfl)
theorem mw534 : Cond.instanceMethod yX10_worst ∈ wsL_law0 := mL22 _ (List.mem_of_getElem? (i := 6) rfl)
theorem mw535 : Cond.selects RX10 yX10_worst yX10_worst ∈ wsL_law0 := mL22 _ (List.mem_of_getElem? (i := 7) rfl)
theorem mw536 : Cond.code yX10_worst cX10_worst 2 (some .int) ∈ wsL_law0 := mL22 _ (List.mem_of_getElem? (i := 8) rfl)
theorem mw537 : Cond.methodLink RL 93 yX11_worst ∈ wsL_law0 := mL22 _ (List.mem_of_getElem? (i := 9) rfl)
theorem mw538 : Cond.instanceMethod yX11_worst ∈ wsL_law0 := mL22 _ (List.mem_of_getElem? (i := 10) rfl)
theorem mw539 : Cond.selects RX11 yX11_worst yX11_worst ∈ wsL_law0 := mL22 _ (List.mem_of_getElem? (i := 11) rfl)
theorem mw540 : Cond.code yX11_worst cX11_worst 6 (some .int) ∈ wsL_law0 := mL22 _ (List.mem_of_getElem? (i := 12) rfl)
theorem mw541 : Cond.methodLink RL 94 yX10_exact ∈ wsL_law0 := mL22 _ (List.mem_of_getElem? (i := 13) rfl)
theorem mw542 : Cond.instanceMethod yX10_exact ∈ wsL_law0 := mL22 _ (List.mem_of_getElem? (i := 14) rfl)
theorem mw543 : Cond.selects RX10 yX10_exact yX10_exact ∈ wsL_law0 := mL22 _ (List.mem_of_getElem? (i := 15) rfl)
theorem mw544 : Cond.code yX10_exact cX10_exact 3 (some .int) ∈ wsL_law0 := mL22 _ (List.mem_of_getElem? (i := 16) rfl)
theorem mw545 : Cond.methodLink RL 97 yX11_exact ∈ wsL_law0 := mL22 _ (List.mem_of_getElem? (i := 17) rfl)
theorem mw546 : Cond.instanceMethod yX11_exact ∈ wsL_law0 := mL22 _ (List.mem_of_getElem? (i := 18) rfl)
theorem mw547 : Cond.selects RX11 yX11_exact yX11_exact ∈ wsL_law0 := mL22 _ (List.mem_of_getElem? (i := 19) rfl)
theorem mw548 : Cond.code yX11_exact cX11_exact 3 (some .int) ∈ wsL_law0 := mL22 _ (List.mem_of_getElem? (i := 20) rfl)
theorem mw549 : Cond.methodLink RL 98 yX10_signs ∈ wsL_law0 := mL22 _ (List.mem_of_getElem? (i := 21) rfl)
theorem mw550 : Cond.instanceMethod yX10_signs ∈ wsL_law0 := mL22 _ (List.mem_of_getElem? (i := 22) rfl)
theorem mw551 : Cond.selects RX10 yX10_signs yX10_signs ∈ wsL_law0 := mL22 _ (List.mem_of_getElem? (i := 23) rfl)
theorem mw552 : Cond.code yX10_signs cX10_signs 2 (some .int) ∈ wsL_law0 := mL23 _ (List.mem_of_getElem? (i := 0) rfl)
theorem mw553 : Cond.methodLink RL 101 yX11_signs ∈ wsL_law0 := mL23 _ (List.mem_of_getElem? (i := 1) rfl)
theorem mw554 : Cond.instanceMethod yX11_signs ∈ wsL_law0 := mL23 _ (List.mem_of_getElem? (i := 2) rfl)
theorem mw555 : Cond.selects RX11 yX11_signs yX11_signs ∈ wsL_law0 := mL23 _ (List.mem_of_getElem? (i := 3) rfl)
theorem mw556 : Cond.code yX11_signs cX11_signs 2 (some .int) ∈ wsL_law0 := mL23 _ (List.mem_of_getElem? (i := 4) rfl)
theorem mw557 : Cond.methodLink RL 102 yX10_fits ∈ wsL_law0 := mL23 _ (List.mem_of_getElem? (i := 5) rfl)
theorem mw558 : Cond.instanceMethod yX10_fits ∈ wsL_law0 := mL23 _ (List.mem_of_getElem? (i := 6) rfl)
theorem mw559 : Cond.selects RX10 yX10_fits yX10_fits ∈ wsL_law0 := mL23 _ (List.mem_of_getElem? (i := 7) rfl)
theorem mw560 : Cond.code yX10_fits cX10_fits 4 (some .int) ∈ wsL_law0 := mL23 _ (List.mem_of_getElem? (i := 8) rfl)
theorem mw561 : Cond.methodLink RL 105 yX11_fits ∈ wsL_law0 := mL23 _ (List.mem_of_getElem? (i := 9) rfl)
theorem mw562 : Cond.instanceMethod yX11_fits ∈ wsL_law0 := mL23 _ (List.mem_of_getElem? (i := 10) rfl)
theorem mw563 : Cond.selects RX11 yX11_fits yX11_fits ∈ wsL_law0 := mL23 _ (List.mem_of_getElem? (i := 11) rfl)
theorem mw564 : Cond.code yX11_fits cX11_fits 3 (some .int) ∈ wsL_law0 := mL23 _ (List.mem_of_getElem? (i := 12) rfl)
theorem mw565 : Cond.methodLink RL 106 yX10_bestSlip ∈ wsL_law0 := mL23 _ (List.mem_of_getElem? (i := 13) rfl)
theorem mw566 : Cond.instanceMethod yX10_bestSlip ∈ wsL_law0 := mL23 _ (List.mem_of_getElem? (i := 14) rfl)
theorem mw567 : Cond.selects RX10 yX10_bestSlip yX10_bestSlip ∈ wsL_law0 := mL23 _ (List.mem_of_getElem? (i := 15) rfl)
theorem mw568 : Cond.code yX10_bestSlip cX10_bestSlip 2 (some .int) ∈ wsL_law0 := mL23 _ (List.mem_of_getElem? (i := 16) rfl)
theorem mw569 : Cond.methodLink RL 109 yX11_bestSlip ∈ wsL_law0 := mL23 _ (List.mem_of_getElem? (i := 17) rfl)
theorem mw570 : Cond.instanceMethod yX11_bestSlip ∈ wsL_law0 := mL23 _ (List.mem_of_getElem? (i := 18) rfl)
theorem mw571 : Cond.selects RX11 yX11_bestSlip yX11_bestSlip ∈ wsL_law0 := mL23 _ (List.mem_of_getElem? (i := 19) rfl)
theorem mw572 : Cond.code yX11_bestSlip cX11_bestSlip 2 (some .int) ∈ wsL_law0 := mL23 _ (List.mem_of_getElem? (i := 20) rfl)
theorem mw573 : Cond.methodLink RL 110 yX10_bySlip ∈ wsL_law0 := mL23 _ (List.mem_of_getElem? (i := 21) rfl)
theorem mw574 : Cond.instanceMethod yX10_bySlip ∈ wsL_law0 := mL23 _ (List.mem_of_getElem? (i := 22) rfl)
theorem mw575 : Cond.selects RX10 yX10_bySlip yX10_bySlip ∈ wsL_law0 := mL23 _ (List.mem_of_getElem? (i := 23) rfl)
theorem mw576 : Cond.code yX10_bySlip cX10_bySlip 2 (some .int) ∈ wsL_law0 := mL24 _ (List.mem_of_getElem? (i := 0) rfl)
theorem mw577 : Cond.methodLink RL 113 yX11_bySlip ∈ wsL_law0 := mL24 _ (List.mem_of_getElem? (i := 1) rfl)
theorem mw578 : Cond.instanceMethod yX11_bySlip ∈ wsL_law0 := mL24 _ (List.mem_of_getElem? (i := 2) rfl)
theorem mw579 : Cond.selects RX11 yX11_bySlip yX11_bySlip ∈ wsL_law0 := mL24 _ (List.mem_of_getElem? (i := 3) rfl)
theorem mw580 : Cond.code yX11_bySlip cX11_bySlip 2 (some .int) ∈ wsL_law0 := mL24 _ (List.mem_of_getElem? (i := 4) rfl)
theorem mw581 : Cond.methodLink RL 114 yX10_needs ∈ wsL_law0 := mL24 _ (List.mem_of_getElem? (i := 5) rfl)
theorem mw582 : Cond.instanceMethod yX10_needs ∈ wsL_law0 := mL24 _ (List.mem_of_getElem? (i := 6) rfl)
theorem mw583 : Cond.selects RX10 yX10_needs yX10_needs ∈ wsL_law0 := mL24 _ (List.mem_of_getElem? (i := 7) rfl)
theorem mw584 : Cond.code yX10_needs cX10_needs 3 (some .int) ∈ wsL_law0 := mL24 _ (List.mem_of_getElem? (i := 8) rfl)
theorem mw585 : Cond.methodLink RL 117 yX11_needs ∈ wsL_law0 := mL24 _ (List.mem_of_getElem? (i := 9) rfl)
theorem mw586 : Cond.instanceMethod yX11_needs ∈ wsL_law0 := mL24 _ (List.mem_of_getElem? (i := 10) rfl)
theorem mw587 : Cond.selects RX11 yX11_needs yX11_needs ∈ wsL_law0 := mL24 _ (List.mem_of_getElem? (i := 11) rfl)
theorem mw588 : Cond.code yX11_needs cX11_needs 3 (some .int) ∈ wsL_law0 := mL24 _ (List.mem_of_getElem? (i := 12) rfl)
theorem mw589 : Cond.methodLink RL 118 yX10_dies ∈ wsL_law0 := mL24 _ (List.mem_of_getElem? (i := 13) rfl)
theorem mw590 : Cond.instanceMethod yX10_dies ∈ wsL_law0 := mL24 _ (List.mem_of_getElem? (i := 14) rfl)
theorem mw591 : Cond.selects RX10 yX10_dies yX10_dies ∈ wsL_law0 := mL24 _ (List.mem_of_getElem? (i := 15) rfl)
theorem mw592 : Cond.code yX10_dies cX10_dies 3 (some .int) ∈ wsL_law0 := mL24 _ (List.mem_of_getElem? (i := 16) rfl)
theorem mw593 : Cond.methodLink RL 121 yX11_dies ∈ wsL_law0 := mL24 _ (List.mem_of_getElem? (i := 17) rfl)
theorem mw594 : Cond.instanceMethod yX11_dies ∈ wsL_law0 := mL24 _ (List.mem_of_getElem? (i := 18) rfl)
theorem mw595 : Cond.selects RX11 yX11_dies yX11_dies ∈ wsL_law0 := mL24 _ (List.mem_of_getElem? (i := 19) rfl)
theorem mw596 : Cond.code yX11_dies cX11_dies 3 (some .int) ∈ wsL_law0 := mL24 _ (List.mem_of_getElem? (i := 20) rfl)
theorem mw597 : Cond.methodLink RL 122 yX10_firstDies ∈ wsL_law0 := mL24 _ (List.mem_of_getElem? (i := 21) rfl)
theorem mw598 : Cond.instanceMethod yX10_firstDies ∈ wsL_law0 := mL24 _ (List.mem_of_getElem? (i := 22) rfl)
theorem mw599 : Cond.selects RX10 yX10_firstDies yX10_firstDies ∈ wsL_law0 := mL24 _ (List.mem_of_getElem? (i := 23) rfl)
theorem mw600 : Cond.code yX10_firstDies cX10_firstDies 2 (some .int) ∈ wsL_law0 := mL25 _ (List.mem_of_getElem? (i := 0) rfl)
theorem mw601 : Cond.methodLink RL 125 yX11_firstDies ∈ wsL_law0 := mL25 _ (List.mem_of_getElem? (i := 1) rfl)
theorem mw602 : Cond.instanceMethod yX11_firstDies ∈ wsL_law0 := mL25 _ (List.mem_of_getElem? (i := 2) rfl)
theorem mw603 : Cond.selects RX11 yX11_firstDies yX11_firstDies ∈ wsL_law0 := mL25 _ (List.mem_of_getElem? (i := 3) rfl)
theorem mw604 : Cond.code yX11_firstDies cX11_firstDies 3 (some .int) ∈ wsL_law0 := mL25 _ (List.mem_of_getElem? (i := 4) rfl)
theorem mw605 : Cond.methodLink RL 126 yX10_free ∈ wsL_law0 := mL25 _ (List.mem_of_getElem? (i := 5) rfl)
theorem mw606 : Cond.instanceMethod yX10_free ∈ wsL_law0 := mL25 _ (List.mem_of_getElem? (i := 6) rfl)
theorem mw607 : Cond.selects RX10 yX10_free yX10_free ∈ wsL_law0 := mL25 _ (List.mem_of_getElem? (i := 7) rfl)
theorem mw608 : Cond.code yX10_free cX10_free 3 (some .int) ∈ wsL_law0 := mL25 _ (List.mem_of_getElem? (i := 8) rfl)
theorem mw609 : Cond.methodLink RL 129 yX11_free ∈ wsL_law0 := mL25 _ (List.mem_of_getElem? (i := 9) rfl)
theorem mw610 : Cond.instanceMethod yX11_free ∈ wsL_law0 := mL25 _ (List.mem_of_getElem? (i := 10) rfl)
theorem mw611 : Cond.selects RX11 yX11_free yX11_free ∈ wsL_law0 := mL25 _ (List.mem_of_getElem? (i := 11) rfl)
theorem mw612 : Cond.code yX11_free cX11_free 3 (some .int) ∈ wsL_law0 := mL25 _ (List.mem_of_getElem? (i := 12) rfl)
theorem mw613 : Cond.methodLink RL 130 yX10_arc ∈ wsL_law0 := mL25 _ (List.mem_of_getElem? (i := 13) rfl)
theorem mw614 : Cond.instanceMethod yX10_arc ∈ wsL_law0 := mL25 _ (List.mem_of_getElem? (i := 14) rfl)
theorem mw615 : Cond.selects RX10 yX10_arc yX10_arc ∈ wsL_law0 := mL25 _ (List.mem_of_getElem? (i := 15) rfl)
theorem mw616 : Cond.code yX10_arc cX10_arc 3 (some .int) ∈ wsL_law0 := mL25 _ (List.mem_of_getElem? (i := 16) rfl)
theorem mw617 : Cond.methodLink RL 133 yX11_arc ∈ wsL_law0 := mL25 _ (List.mem_of_getElem? (i := 17) rfl)
theorem mw618 : Cond.instanceMethod yX11_arc ∈ wsL_law0 := mL25 _ (List.mem_of_getElem? (i := 18) rfl)
theorem mw619 : Cond.selects RX11 yX11_arc yX11_arc ∈ wsL_law0 := mL25 _ (List.mem_of_getElem? (i := 19) rfl)
theorem mw620 : Cond.code yX11_arc cX11_arc 3 (some .int) ∈ wsL_law0 := mL25 _ (List.mem_of_getElem? (i := 20) rfl)
theorem mw621 : Cond.methodLink RL 134 yX10_never ∈ wsL_law0 := mL25 _ (List.mem_of_getElem? (i := 21) rfl)
theorem mw622 : Cond.instanceMethod yX10_never ∈ wsL_law0 := mL25 _ (List.mem_of_getElem? (i := 22) rfl)
theorem mw623 : Cond.selects RX10 yX10_never yX10_never ∈ wsL_law0 := mL25 _ (List.mem_of_getElem? (i := 23) rfl)
theorem mw624 : Cond.code yX10_never cX10_never 2 (some .int) ∈ wsL_law0 := mL26 _ (List.mem_of_getElem? (i := 0) rfl)
theorem mw625 : Cond.methodLink RL 137 yX11_never ∈ wsL_law0 := mL26 _ (List.mem_of_getElem? (i := 1) rfl)
theorem mw626 : Cond.instanceMethod yX11_never ∈ wsL_law0 := mL26 _ (List.mem_of_getElem? (i := 2) rfl)
theorem mw627 : Cond.selects RX11 yX11_never yX11_never ∈ wsL_law0 := mL26 _ (List.mem_of_getElem? (i := 3) rfl)
theorem mw628 : Cond.code yX11_never cX11_never 4 (some .int) ∈ wsL_law0 := mL26 _ (List.mem_of_getElem? (i := 4) rfl)
theorem mw629 : Cond.methodLink RL 138 yX10_truly ∈ wsL_law0 := mL26 _ (List.mem_of_getElem? (i := 5) rfl)
theorem mw630 : Cond.instanceMethod yX10_truly ∈ wsL_law0 := mL26 _ (List.mem_of_getElem? (i := 6) rfl)
theorem mw631 : Cond.selects RX10 yX10_truly yX10_truly ∈ wsL_law0 := mL26 _ (List.mem_of_getElem? (i := 7) rfl)
theorem mw632 : Cond.code yX10_truly cX10_truly 4 (some .long) ∈ wsL_law0 := mL26 _ (List.mem_of_getElem? (i := 8) rfl)
theorem mw633 : Cond.methodLink RL 142 yX11_truly ∈ wsL_law0 := mL26 _ (List.mem_of_getElem? (i := 9) rfl)
theorem mw634 : Cond.instanceMethod yX11_truly ∈ wsL_law0 := mL26 _ (List.mem_of_getElem? (i := 10) rfl)
theorem mw635 : Cond.selects RX11 yX11_truly yX11_truly ∈ wsL_law0 := mL26 _ (List.mem_of_getElem? (i := 11) rfl)
theorem mw636 : Cond.code yX11_truly cX11_truly 4 (some .long) ∈ wsL_law0 := mL26 _ (List.mem_of_getElem? (i := 12) rfl)
theorem mw637 : Cond.methodLink RL 143 yX10_likeliest ∈ wsL_law0 := mL26 _ (List.mem_of_getElem? (i := 13) rfl)
theorem mw638 : Cond.instanceMethod yX10_likeliest ∈ wsL_law0 := mL26 _ (List.mem_of_getElem? (i := 14) rfl)
theorem mw639 : Cond.selects RX10 yX10_likeliest yX10_likeliest ∈ wsL_law0 := mL26 _ (List.mem_of_getElem? (i := 15) rfl)
theorem mw640 : Cond.code yX10_likeliest cX10_likeliest 2 (some .int) ∈ wsL_law0 := mL26 _ (List.mem_of_getElem? (i := 16) rfl)
theorem mw641 : Cond.methodLink RL 146 yX11_likeliest ∈ wsL_law0 := mL26 _ (List.mem_of_getElem? (i := 17) rfl)
theorem mw642 : Cond.instanceMethod yX11_likeliest ∈ wsL_law0 := mL26 _ (List.mem_of_getElem? (i := 18) rfl)
theorem mw643 : Cond.selects RX11 yX11_likeliest yX11_likeliest ∈ wsL_law0 := mL26 _ (List.mem_of_getElem? (i := 19) rfl)
theorem mw644 : Cond.code yX11_likeliest cX11_likeliest 4 (some .int) ∈ wsL_law0 := mL26 _ (List.mem_of_getElem? (i := 20) rfl)
theorem mw645 : Cond.methodLink RL 147 yX10_who ∈ wsL_law0 := mL26 _ (List.mem_of_getElem? (i := 21) rfl)
theorem mw646 : Cond.instanceMethod yX10_who ∈ wsL_law0 := mL26 _ (List.mem_of_getElem? (i := 22) rfl)
theorem mw647 : Cond.selects RX10 yX10_who yX10_who ∈ wsL_law0 := mL26 _ (List.mem_of_getElem? (i := 23) rfl)
theorem mw648 : Cond.code yX10_who cX10_who 3 (some .int) ∈ wsL_law0 := mL27 _ (List.mem_of_getElem? (i := 0) rfl)
theorem mw649 : Cond.methodLink RL 150 yX11_who ∈ wsL_law0 := mL27 _ (List.mem_of_getElem? (i := 1) rfl)
theorem mw650 : Cond.instanceMethod yX11_who ∈ wsL_law0 := mL27 _ (List.mem_of_getElem? (i := 2) rfl)
theorem mw651 : Cond.selects RX11 yX11_who yX11_who ∈ wsL_law0 := mL27 _ (List.mem_of_getElem? (i := 3) rfl)
theorem mw652 : Cond.code yX11_who cX11_who 2 (some .int) ∈ wsL_law0 := mL27 _ (List.mem_of_getElem? (i := 4) rfl)
theorem mw653 : Cond.methodLink RL 151 yX10_far ∈ wsL_law0 := mL27 _ (List.mem_of_getElem? (i := 5) rfl)
theorem mw654 : Cond.instanceMethod yX10_far ∈ wsL_law0 := mL27 _ (List.mem_of_getElem? (i := 6) rfl)
theorem mw655 : Cond.selects RX10 yX10_far yX10_far ∈ wsL_law0 := mL27 _ (List.mem_of_getElem? (i := 7) rfl)
theorem mw656 : Cond.code yX10_far cX10_far 3 (some .int) ∈ wsL_law0 := mL27 _ (List.mem_of_getElem? (i := 8) rfl)
theorem mw657 : Cond.methodLink RL 154 yX11_far ∈ wsL_law0 := mL27 _ (List.mem_of_getElem? (i := 9) rfl)
theorem mw658 : Cond.instanceMethod yX11_far ∈ wsL_law0 := mL27 _ (List.mem_of_getElem? (i := 10) rfl)
theorem mw659 : Cond.selects RX11 yX11_far yX11_far ∈ wsL_law0 := mL27 _ (List.mem_of_getElem? (i := 11) rfl)
theorem mw660 : Cond.code yX11_far cX11_far 2 (some .int) ∈ wsL_law0 := mL27 _ (List.mem_of_getElem? (i := 12) rfl)
theorem mw661 : Cond.methodLink RL 155 yX10_missing ∈ wsL_law0 := mL27 _ (List.mem_of_getElem? (i := 13) rfl)
theorem mw662 : Cond.instanceMethod yX10_missing ∈ wsL_law0 := mL27 _ (List.mem_of_getElem? (i := 14) rfl)
theorem mw663 : Cond.selects RX10 yX10_missing yX10_missing ∈ wsL_law0 := mL27 _ (List.mem_of_getElem? (i := 15) rfl)
theorem mw664 : Cond.code yX10_missing cX10_missing 4 (some .int) ∈ wsL_law0 := mL27 _ (List.mem_of_getElem? (i := 16) rfl)
theorem mw665 : Cond.methodLink RL 159 yX11_missing ∈ wsL_law0 := mL27 _ (List.mem_of_getElem? (i := 17) rfl)
theorem mw666 : Cond.instanceMethod yX11_missing ∈ wsL_law0 := mL27 _ (List.mem_of_getElem? (i := 18) rfl)
theorem mw667 : Cond.selects RX11 yX11_missing yX11_missing ∈ wsL_law0 := mL27 _ (List.mem_of_getElem? (i := 19) rfl)
theorem mw668 : Cond.code yX11_missing cX11_missing 5 (some .int) ∈ wsL_law0 := mL27 _ (List.mem_of_getElem? (i := 20) rfl)
theorem mw669 : Cond.methodLink RL 160 yX10_words ∈ wsL_law0 := mL27 _ (List.mem_of_getElem? (i := 21) rfl)
theorem mw670 : Cond.instanceMethod yX10_words ∈ wsL_law0 := mL27 _ (List.mem_of_getElem? (i := 22) rfl)
theorem mw671 : Cond.selects RX10 yX10_words yX10_words ∈ wsL_law0 := mL27 _ (List.mem_of_getElem? (i := 23) rfl)
theorem mw672 : Cond.code yX10_words cX10_words 4 (some .int) ∈ wsL_law0 := mL28 _ (List.mem_of_getElem? (i := 0) rfl)
theorem mw673 : Cond.methodLink RL 163 yX11_words ∈ wsL_law0 := mL28 _ (List.mem_of_getElem? (i := 1) rfl)
theorem mw674 : Cond.instanceMethod yX11_words ∈ wsL_law0 := mL28 _ (List.mem_of_getElem? (i := 2) rfl)
theorem mw675 : Cond.selects RX11 yX11_words yX11_words ∈ wsL_law0 := mL28 _ (List.mem_of_getElem? (i := 3) rfl)
theorem mw676 : Cond.code yX11_words cX11_words 4 (some .int) ∈ wsL_law0 := mL28 _ (List.mem_of_getElem? (i := 4) rfl)
theorem mw677 : Cond.methodLink RL 164 yX10_holds ∈ wsL_law0 := mL28 _ (List.mem_of_getElem? (i := 5) rfl)
theorem mw678 : Cond.instanceMethod yX10_holds ∈ wsL_law0 := mL28 _ (List.mem_of_getElem? (i := 6) rfl)
theorem mw679 : Cond.selects RX10 yX10_holds yX10_holds ∈ wsL_law0 := mL28 _ (List.mem_of_getElem? (i := 7) rfl)
theorem mw680 : Cond.code yX10_holds cX10_holds 4 (some .long) ∈ wsL_law0 := mL28 _ (List.mem_of_getElem? (i := 8) rfl)
theorem mw681 : Cond.methodLink RL 167 yX11_holds ∈ wsL_law0 := mL28 _ (List.mem_of_getElem? (i := 9) rfl)
theorem mw682 : Cond.instanceMethod yX11_holds ∈ wsL_law0 := mL28 _ (List.mem_of_getElem? (i := 10) rfl)
theorem mw683 : Cond.selects RX11 yX11_holds yX11_holds ∈ wsL_law0 := mL28 _ (List.mem_of_getElem? (i := 11) rfl)
theorem mw684 : Cond.code yX11_holds cX11_holds 4 (some .long) ∈ wsL_law0 := mL28 _ (List.mem_of_getElem? (i := 12) rfl)
theorem mw685 : Cond.methodLink RL 168 yX10_pays ∈ wsL_law0 := mL28 _ (List.mem_of_getElem? (i := 13) rfl)
theorem mw686 : Cond.instanceMethod yX10_pays ∈ wsL_law0 := mL28 _ (List.mem_of_getElem? (i := 14) rfl)
theorem mw687 : Cond.selects RX10 yX10_pays yX10_pays ∈ wsL_law0 := mL28 _ (List.mem_of_getElem? (i := 15) rfl)
theorem mw688 : Cond.code yX10_pays cX10_pays 5 (some .int) ∈ wsL_law0 := mL28 _ (List.mem_of_getElem? (i := 16) rfl)
theorem mw689 : Cond.methodLink RL 171 yX11_pays ∈ wsL_law0 := mL28 _ (List.mem_of_getElem? (i := 17) rfl)
theorem mw690 : Cond.instanceMethod yX11_pays ∈ wsL_law0 := mL28 _ (List.mem_of_getElem? (i := 18) rfl)
theorem mw691 : Cond.selects RX11 yX11_pays yX11_pays ∈ wsL_law0 := mL28 _ (List.mem_of_getElem? (i := 19) rfl)
theorem mw692 : Cond.code yX11_pays cX11_pays 5 (some .int) ∈ wsL_law0 := mL28 _ (List.mem_of_getElem? (i := 20) rfl)
theorem mw693 : Cond.methodLink RL 172 yX10_wears ∈ wsL_law0 := mL28 _ (List.mem_of_getElem? (i := 21) rfl)
theorem mw694 : Cond.instanceMethod yX10_wears ∈ wsL_law0 := mL28 _ (List.mem_of_getElem? (i := 22) rfl)
theorem mw695 : Cond.selects RX10 yX10_wears yX10_wears ∈ wsL_law0 := mL28 _ (List.mem_of_getElem? (i := 23) rfl)
theorem mw696 : Cond.code yX10_wears cX10_wears 6 (some .long) ∈ wsL_law0 := mL29 _ (List.mem_of_getElem? (i := 0) rfl)
theorem mw697 : Cond.methodLink RL 175 yX11_wears ∈ wsL_law0 := mL29 _ (List.mem_of_getElem? (i := 1) rfl)
theorem mw698 : Cond.instanceMethod yX11_wears ∈ wsL_law0 := mL29 _ (List.mem_of_getElem? (i := 2) rfl)
theorem mw699 : Cond.selects RX11 yX11_wears yX11_wears ∈ wsL_law0 := mL29 _ (List.mem_of_getElem? (i := 3) rfl)
theorem mw700 : Cond.code yX11_wears cX11_wears 7 (some .long) ∈ wsL_law0 := mL29 _ (List.mem_of_getElem? (i := 4) rfl)
theorem mw701 : Cond.methodLink RL 176 yX10_apart ∈ wsL_law0 := mL29 _ (List.mem_of_getElem? (i := 5) rfl)
theorem mw702 : Cond.instanceMethod yX10_apart ∈ wsL_law0 := mL29 _ (List.mem_of_getElem? (i := 6) rfl)
theorem mw703 : Cond.selects RX10 yX10_apart yX10_apart ∈ wsL_law0 := mL29 _ (List.mem_of_getElem? (i := 7) rfl)
theorem mw704 : Cond.code yX10_apart cX10_apart 4 (some .int) ∈ wsL_law0 := mL29 _ (List.mem_of_getElem? (i := 8) rfl)
theorem mw705 : Cond.methodLink RL 179 yX11_apart ∈ wsL_law0 := mL29 _ (List.mem_of_getElem? (i := 9) rfl)
theorem mw706 : Cond.instanceMethod yX11_apart ∈ wsL_law0 := mL29 _ (List.mem_of_getElem? (i := 10) rfl)
theorem mw707 : Cond.selects RX11 yX11_apart yX11_apart ∈ wsL_law0 := mL29 _ (List.mem_of_getElem? (i := 11) rfl)
theorem mw708 : Cond.code yX11_apart cX11_apart 4 (some .int) ∈ wsL_law0 := mL29 _ (List.mem_of_getElem? (i := 12) rfl)
theorem mw709 : Cond.methodLink RL 180 yX10_waits ∈ wsL_law0 := mL29 _ (List.mem_of_getElem? (i := 13) rfl)
theorem mw710 : Cond.instanceMethod yX10_waits ∈ wsL_law0 := mL29 _ (List.mem_of_getElem? (i := 14) rfl)
theorem mw711 : Cond.selects RX10 yX10_waits yX10_waits ∈ wsL_law0 := mL29 _ (List.mem_of_getElem? (i := 15) rfl)
theorem mw712 : Cond.code yX10_waits cX10_waits 5 (some .int) ∈ wsL_law0 := mL29 _ (List.mem_of_getElem? (i := 16) rfl)
theorem mw713 : Cond.methodLink RL 184 yX11_waits ∈ wsL_law0 := mL29 _ (List.mem_of_getElem? (i := 17) rfl)
theorem mw714 : Cond.instanceMethod yX11_waits ∈ wsL_law0 := mL29 _ (List.mem_of_getElem? (i := 18) rfl)
theorem mw715 : Cond.selects RX11 yX11_waits yX11_waits ∈ wsL_law0 := mL29 _ (List.mem_of_getElem? (i := 19) rfl)
theorem mw716 : Cond.code yX11_waits cX11_waits 9 (some .int) ∈ wsL_law0 := mL29 _ (List.mem_of_getElem? (i := 20) rfl)
theorem mw717 : Cond.methodLink RL 185 yX10_boys ∈ wsL_law0 := mL29 _ (List.mem_of_getElem? (i := 21) rfl)
theorem mw718 : Cond.instanceMethod yX10_boys ∈ wsL_law0 := mL29 _ (List.mem_of_getElem? (i := 22) rfl)
theorem mw719 : Cond.selects RX10 yX10_boys yX10_boys ∈ wsL_law0 := mL29 _ (List.mem_of_getElem? (i := 23) rfl)
theorem mw720 : Cond.code yX10_boys cX10_boys 5 (some .int) ∈ wsL_law0 := mL30 _ (List.mem_of_getElem? (i := 0) rfl)
theorem mw721 : Cond.methodLink RL 188 yX11_boys ∈ wsL_law0 := mL30 _ (List.mem_of_getElem? (i := 1) rfl)
theorem mw722 : Cond.instanceMethod yX11_boys ∈ wsL_law0 := mL30 _ (List.mem_of_getElem? (i := 2) rfl)
theorem mw723 : Cond.selects RX11 yX11_boys yX11_boys ∈ wsL_law0 := mL30 _ (List.mem_of_getElem? (i := 3) rfl)
theorem mw724 : Cond.code yX11_boys cX11_boys 5 (some .int) ∈ wsL_law0 := mL30 _ (List.mem_of_getElem? (i := 4) rfl)
theorem mw725 : Cond.methodLink RL 189 yX10_well ∈ wsL_law0 := mL30 _ (List.mem_of_getElem? (i := 5) rfl)
theorem mw726 : Cond.instanceMethod yX10_well ∈ wsL_law0 := mL30 _ (List.mem_of_getElem? (i := 6) rfl)
theorem mw727 : Cond.selects RX10 yX10_well yX10_well ∈ wsL_law0 := mL30 _ (List.mem_of_getElem? (i := 7) rfl)
theorem mw728 : Cond.code yX10_well cX10_well 2 (some .long) ∈ wsL_law0 := mL30 _ (List.mem_of_getElem? (i := 8) rfl)
theorem mw729 : Cond.methodLink RL 193 yX11_well ∈ wsL_law0 := mL30 _ (List.mem_of_getElem? (i := 9) rfl)
theorem mw730 : Cond.instanceMethod yX11_well ∈ wsL_law0 := mL30 _ (List.mem_of_getElem? (i := 10) rfl)
theorem mw731 : Cond.selects RX11 yX11_well yX11_well ∈ wsL_law0 := mL30 _ (List.mem_of_getElem? (i := 11) rfl)
theorem mw732 : Cond.code yX11_well cX11_well 2 (some .long) ∈ wsL_law0 := mL30 _ (List.mem_of_getElem? (i := 12) rfl)
theorem mw733 : Cond.methodLink RL 194 yX10_wrong ∈ wsL_law0 := mL30 _ (List.mem_of_getElem? (i := 13) rfl)
theorem mw734 : Cond.instanceMethod yX10_wrong ∈ wsL_law0 := mL30 _ (List.mem_of_getElem? (i := 14) rfl)
theorem mw735 : Cond.selects RX10 yX10_wrong yX10_wrong ∈ wsL_law0 := mL30 _ (List.mem_of_getElem? (i := 15) rfl)
theorem mw736 : Cond.code yX10_wrong cX10_wrong 1 (some .int) ∈ wsL_law0 := mL30 _ (List.mem_of_getElem? (i := 16) rfl)
theorem mw737 : Cond.methodLink RL 197 yX11_wrong ∈ wsL_law0 := mL30 _ (List.mem_of_getElem? (i := 17) rfl)
theorem mw738 : Cond.instanceMethod yX11_wrong ∈ wsL_law0 := mL30 _ (List.mem_of_getElem? (i := 18) rfl)
theorem mw739 : Cond.selects RX11 yX11_wrong yX11_wrong ∈ wsL_law0 := mL30 _ (List.mem_of_getElem? (i := 19) rfl)
theorem mw740 : Cond.code yX11_wrong cX11_wrong 4 (some .int) ∈ wsL_law0 := mL30 _ (List.mem_of_getElem? (i := 20) rfl)
theorem mw741 : Cond.methodLink RL 198 yX10_exchanges ∈ wsL_law0 := mL30 _ (List.mem_of_getElem? (i := 21) rfl)
theorem mw742 : Cond.instanceMethod yX10_exchanges ∈ wsL_law0 := mL30 _ (List.mem_of_getElem? (i := 22) rfl)
theorem mw743 : Cond.selects RX10 yX10_exchanges yX10_exchanges ∈ wsL_law0 := mL30 _ (List.mem_of_getElem? (i := 23) rfl)
theorem mw744 : Cond.code yX10_exchanges cX10_exchanges 1 (some .int) ∈ wsL_law0 := mL31 _ (List.mem_of_getElem? (i := 0) rfl)
theorem mw745 : Cond.methodLink RL 201 yX11_exchanges ∈ wsL_law0 := mL31 _ (List.mem_of_getElem? (i := 1) rfl)
theorem mw746 : Cond.instanceMethod yX11_exchanges ∈ wsL_law0 := mL31 _ (List.mem_of_getElem? (i := 2) rfl)
theorem mw747 : Cond.selects RX11 yX11_exchanges yX11_exchanges ∈ wsL_law0 := mL31 _ (List.mem_of_getElem? (i := 3) rfl)
theorem mw748 : Cond.code yX11_exchanges cX11_exchanges 5 (some .int) ∈ wsL_law0 := mL31 _ (List.mem_of_getElem? (i := 4) rfl)
theorem mw749 : Cond.methodLink RL 202 yX10_dark ∈ wsL_law0 := mL31 _ (List.mem_of_getElem? (i := 5) rfl)
theorem mw750 : Cond.instanceMethod yX10_dark ∈ wsL_law0 := mL31 _ (List.mem_of_getElem? (i := 6) rfl)
theorem mw751 : Cond.selects RX10 yX10_dark yX10_dark ∈ wsL_law0 := mL31 _ (List.mem_of_getElem? (i := 7) rfl)
theorem mw752 : Cond.code yX10_dark cX10_dark 3 (some .int) ∈ wsL_law0 := mL31 _ (List.mem_of_getElem? (i := 8) rfl)
theorem mw753 : Cond.methodLink RL 205 yX11_dark ∈ wsL_law0 := mL31 _ (List.mem_of_getElem? (i := 9) rfl)
theorem mw754 : Cond.instanceMethod yX11_dark ∈ wsL_law0 := mL31 _ (List.mem_of_getElem? (i := 10) rfl)
theorem mw755 : Cond.selects RX11 yX11_dark yX11_dark ∈ wsL_law0 := mL31 _ (List.mem_of_getElem? (i := 11) rfl)
theorem mw756 : Cond.code yX11_dark cX11_dark 3 (some .int) ∈ wsL_law0 := mL31 _ (List.mem_of_getElem? (i := 12) rfl)
theorem mw757 : Cond.methodLink RL 206 yX10_bestMan ∈ wsL_law0 := mL31 _ (List.mem_of_getElem? (i := 13) rfl)
theorem mw758 : Cond.instanceMethod yX10_bestMan ∈ wsL_law0 := mL31 _ (List.mem_of_getElem? (i := 14) rfl)
theorem mw759 : Cond.selects RX10 yX10_bestMan yX10_bestMan ∈ wsL_law0 := mL31 _ (List.mem_of_getElem? (i := 15) rfl)
theorem mw760 : Cond.code yX10_bestMan cX10_bestMan 7 (some .int) ∈ wsL_law0 := mL31 _ (List.mem_of_getElem? (i := 16) rfl)
theorem mw761 : Cond.methodLink RL 209 yX11_bestMan ∈ wsL_law0 := mL31 _ (List.mem_of_getElem? (i := 17) rfl)
theorem mw762 : Cond.instanceMethod yX11_bestMan ∈ wsL_law0 := mL31 _ (List.mem_of_getElem? (i := 18) rfl)
theorem mw763 : Cond.selects RX11 yX11_bestMan yX11_bestMan ∈ wsL_law0 := mL31 _ (List.mem_of_getElem? (i := 19) rfl)
theorem mw764 : Cond.code yX11_bestMan cX11_bestMan 8 (some .int) ∈ wsL_law0 := mL31 _ (List.mem_of_getElem? (i := 20) rfl)
theorem mw765 : Cond.methodLink RL 210 yX10_threads ∈ wsL_law0 := mL31 _ (List.mem_of_getElem? (i := 21) rfl)
theorem mw766 : Cond.instanceMethod yX10_threads ∈ wsL_law0 := mL31 _ (List.mem_of_getElem? (i := 22) rfl)
theorem mw767 : Cond.selects RX10 yX10_threads yX10_threads ∈ wsL_law0 := mL31 _ (List.mem_of_getElem? (i := 23) rfl)
theorem mw768 : Cond.code yX10_threads cX10_threads 3 (some .boolean) ∈ wsL_law0 := mL32 _ (List.mem_of_getElem? (i := 0) rfl)
theorem mw769 : Cond.methodLink RL 214 yX11_threads ∈ wsL_law0 := mL32 _ (List.mem_of_getElem? (i := 1) rfl)
theorem mw770 : Cond.instanceMethod yX11_threads ∈ wsL_law0 := mL32 _ (List.mem_of_getElem? (i := 2) rfl)
theorem mw771 : Cond.selects RX11 yX11_threads yX11_threads ∈ wsL_law0 := mL32 _ (List.mem_of_getElem? (i := 3) rfl)
theorem mw772 : Cond.code yX11_threads cX11_threads 3 (some .boolean) ∈ wsL_law0 := mL32 _ (List.mem_of_getElem? (i := 4) rfl)
theorem mw773 : Cond.methodLink RL 215 yX10_trim ∈ wsL_law0 := mL32 _ (List.mem_of_getElem? (i := 5) rfl)
theorem mw774 : Cond.instanceMethod yX10_trim ∈ wsL_law0 := mL32 _ (List.mem_of_getElem? (i := 6) rfl)
theorem mw775 : Cond.selects RX10 yX10_trim yX10_trim ∈ wsL_law0 := mL32 _ (List.mem_of_getElem? (i := 7) rfl)
theorem mw776 : Cond.code yX10_trim cX10_trim 3 (some .boolean) ∈ wsL_law0 := mL32 _ (List.mem_of_getElem? (i := 8) rfl)
theorem mw777 : Cond.methodLink RL 219 yX11_trim ∈ wsL_law0 := mL32 _ (List.mem_of_getElem? (i := 9) rfl)
theorem mw778 : Cond.instanceMethod yX11_trim ∈ wsL_law0 := mL32 _ (List.mem_of_getElem? (i := 10) rfl)
theorem mw779 : Cond.selects RX11 yX11_trim yX11_trim ∈ wsL_law0 := mL32 _ (List.mem_of_getElem? (i := 11) rfl)
theorem mw780 : Cond.code yX11_trim cX11_trim 3 (some .boolean) ∈ wsL_law0 := mL32 _ (List.mem_of_getElem? (i := 12) rfl)
theorem mw781 : Cond.methodLink RL 220 yX10_mend ∈ wsL_law0 := mL32 _ (List.mem_of_getElem? (i := 13) rfl)
theorem mw782 : Cond.instanceMethod yX10_mend ∈ wsL_law0 := mL32 _ (List.mem_of_getElem? (i := 14) rfl)
theorem mw783 : Cond.selects RX10 yX10_mend yX10_mend ∈ wsL_law0 := mL32 _ (List.mem_of_getElem? (i := 15) rfl)
theorem mw784 : Cond.code yX10_mend cX10_mend 3 (some .int) ∈ wsL_law0 := mL32 _ (List.mem_of_getElem? (i := 16) rfl)
theorem mw785 : Cond.methodLink RL 223 yX11_mend ∈ wsL_law0 := mL32 _ (List.mem_of_getElem? (i := 17) rfl)
theorem mw786 : Cond.instanceMethod yX11_mend ∈ wsL_law0 := mL32 _ (List.mem_of_getElem? (i := 18) rfl)
theorem mw787 : Cond.selects RX11 yX11_mend yX11_mend ∈ wsL_law0 := mL32 _ (List.mem_of_getElem? (i := 19) rfl)
theorem mw788 : Cond.code yX11_mend cX11_mend 6 (some .int) ∈ wsL_law0 := mL32 _ (List.mem_of_getElem? (i := 20) rfl)
theorem mw789 : Cond.methodLink RL 224 yX10_undo ∈ wsL_law0 := mL32 _ (List.mem_of_getElem? (i := 21) rfl)
theorem mw790 : Cond.instanceMethod yX10_undo ∈ wsL_law0 := mL32 _ (List.mem_of_getElem? (i := 22) rfl)
theorem mw791 : Cond.selects RX10 yX10_undo yX10_undo ∈ wsL_law0 := mL32 _ (List.mem_of_getElem? (i := 23) rfl)
theorem mw792 : Cond.code yX10_undo cX10_undo 1 (some .boolean) ∈ wsL_law0 := mL33 _ (List.mem_of_getElem? (i := 0) rfl)
theorem mw793 : Cond.methodLink RL 228 yX11_undo ∈ wsL_law0 := mL33 _ (List.mem_of_getElem? (i := 1) rfl)
theorem mw794 : Cond.instanceMethod yX11_undo ∈ wsL_law0 := mL33 _ (List.mem_of_getElem? (i := 2) rfl)
theorem mw795 : Cond.selects RX11 yX11_undo yX11_undo ∈ wsL_law0 := mL33 _ (List.mem_of_getElem? (i := 3) rfl)
theorem mw796 : Cond.code yX11_undo cX11_undo 1 (some .boolean) ∈ wsL_law0 := mL33 _ (List.mem_of_getElem? (i := 4) rfl)
theorem mw797 : Cond.methodLink RL 229 yX10_image ∈ wsL_law0 := mL33 _ (List.mem_of_getElem? (i := 5) rfl)
theorem mw798 : Cond.instanceMethod yX10_image ∈ wsL_law0 := mL33 _ (List.mem_of_getElem? (i := 6) rfl)
theorem mw799 : Cond.selects RX10 yX10_image yX10_image ∈ wsL_law0 := mL33 _ (List.mem_of_getElem? (i := 7) rfl)
theorem mw800 : Cond.code yX10_image cX10_image 2 (some .int) ∈ wsL_law0 := mL33 _ (List.mem_of_getElem? (i := 8) rfl)
theorem mw801 : Cond.methodLink RL 232 yX11_image ∈ wsL_law0 := mL33 _ (List.mem_of_getElem? (i := 9) rfl)
theorem mw802 : Cond.instanceMethod yX11_image ∈ wsL_law0 := mL33 _ (List.mem_of_getElem? (i := 10) rfl)
theorem mw803 : Cond.selects RX11 yX11_image yX11_image ∈ wsL_law0 := mL33 _ (List.mem_of_getElem? (i := 11) rfl)
theorem mw804 : Cond.code yX11_image cX11_image 1 (some .int) ∈ wsL_law0 := mL33 _ (List.mem_of_getElem? (i := 12) rfl)
theorem mw805 : Cond.methodLink RL 233 yX10_back ∈ wsL_law0 := mL33 _ (List.mem_of_getElem? (i := 13) rfl)
theorem mw806 : Cond.instanceMethod yX10_back ∈ wsL_law0 := mL33 _ (List.mem_of_getElem? (i := 14) rfl)
theorem mw807 : Cond.selects RX10 yX10_back yX10_back ∈ wsL_law0 := mL33 _ (List.mem_of_getElem? (i := 15) rfl)
theorem mw808 : Cond.code yX10_back cX10_back 2 (some .boolean) ∈ wsL_law0 := mL33 _ (List.mem_of_getElem? (i := 16) rfl)
theorem mw809 : Cond.methodLink RL 237 yX11_back ∈ wsL_law0 := mL33 _ (List.mem_of_getElem? (i := 17) rfl)
theorem mw810 : Cond.instanceMethod yX11_back ∈ wsL_law0 := mL33 _ (List.mem_of_getElem? (i := 18) rfl)
theorem mw811 : Cond.selects RX11 yX11_back yX11_back ∈ wsL_law0 := mL33 _ (List.mem_of_getElem? (i := 19) rfl)
theorem mw812 : Cond.code yX11_back cX11_back 2 (some .boolean) ∈ wsL_law0 := mL33 _ (List.mem_of_getElem? (i := 20) rfl)
theorem mw813 : Cond.methodLink RL 247 yX10_size ∈ wsL_law0 := mL33 _ (List.mem_of_getElem? (i := 21) rfl)
theorem mw814 : Cond.instanceMethod yX10_size ∈ wsL_law0 := mL33 _ (List.mem_of_getElem? (i := 22) rfl)
theorem mw815 : Cond.selects RX10 yX10_size yX10_size ∈ wsL_law0 := mL33 _ (List.mem_of_getElem? (i := 23) rfl)
theorem mw816 : Cond.code yX10_size cX10_size 2 (some .int) ∈ wsL_law0 := mL34 _ (List.mem_of_getElem? (i := 0) rfl)
theorem mw817 : Cond.methodLink RL 250 yX11_size ∈ wsL_law0 := mL34 _ (List.mem_of_getElem? (i := 1) rfl)
theorem mw818 : Cond.instanceMethod yX11_size ∈ wsL_law0 := mL34 _ (List.mem_of_getElem? (i := 2) rfl)
theorem mw819 : Cond.selects RX11 yX11_size yX11_size ∈ wsL_law0 := mL34 _ (List.mem_of_getElem? (i := 3) rfl)
theorem mw820 : Cond.code yX11_size cX11_size 2 (some .int) ∈ wsL_law0 := mL34 _ (List.mem_of_getElem? (i := 4) rfl)
theorem mw821 : Cond.methodLink RL 251 yX10_trouble ∈ wsL_law0 := mL34 _ (List.mem_of_getElem? (i := 5) rfl)
theorem mw822 : Cond.instanceMethod yX10_trouble ∈ wsL_law0 := mL34 _ (List.mem_of_getElem? (i := 6) rfl)
theorem mw823 : Cond.selects RX10 yX10_trouble yX10_trouble ∈ wsL_law0 := mL34 _ (List.mem_of_getElem? (i := 7) rfl)
theorem mw824 : Cond.code yX10_trouble cX10_trouble 1 (some .int) ∈ wsL_law0 := mL34 _ (List.mem_of_getElem? (i := 8) rfl)
theorem mw825 : Cond.methodLink RL 254 yX11_trouble ∈ wsL_law0 := mL34 _ (List.mem_of_getElem? (i := 9) rfl)
theorem mw826 : Cond.instanceMethod yX11_trouble ∈ wsL_law0 := mL34 _ (List.mem_of_getElem? (i := 10) rfl)
theorem mw827 : Cond.selects RX11 yX11_trouble yX11_trouble ∈ wsL_law0 := mL34 _ (List.mem_of_getElem? (i := 11) rfl)
theorem mw828 : Cond.code yX11_trouble cX11_trouble 1 (some .int) ∈ wsL_law0 := mL34 _ (List.mem_of_getElem? (i := 12) rfl)
theorem mw829 : Cond.classLink RX10 363 "java/util/NoSuchElementException" ∈ wsL_law0 := mL34 _ (List.mem_of_getElem? (i := 13) rfl)
theorem mw830 : Cond.initialized "java/util/NoSuchElementException" ∈ wsL_law0 := mL34 _ (List.mem_of_getElem? (i := 14) rfl)
theorem mw831 : Cond.classLink RL 13 "java/util/NoSuchElementException" ∈ wsL_law0 := mL34 _ (List.mem_of_getElem? (i := 15) rfl)
theorem mw832 : Cond.methodLink RL 7 yX10_led ∈ wsL_law0 := mL34 _ (List.mem_of_getElem? (i := 16) rfl)
theorem mw833 : Cond.instanceMethod yX10_led ∈ wsL_law0 := mL34 _ (List.mem_of_getElem? (i := 17) rfl)
theorem mw834 : Cond.selects RX10 yX10_led yX10_led ∈ wsL_law0 := mL34 _ (List.mem_of_getElem? (i := 18) rfl)
theorem mw835 : Cond.code yX10_led cX10_led 4 (some .int) ∈ wsL_law0 := mL34 _ (List.mem_of_getElem? (i := 19) rfl)
theorem mw836 : Cond.methodLink RL 243 yX11_led ∈ wsL_law0 := mL34 _ (List.mem_of_getElem? (i := 20) rfl)
theorem mw837 : Cond.instanceMethod yX11_led ∈ wsL_law0 := mL34 _ (List.mem_of_getElem? (i := 21) rfl)
theorem mw838 : Cond.selects RX11 yX11_led yX11_led ∈ wsL_law0 := mL34 _ (List.mem_of_getElem? (i := 22) rfl)
theorem mw839 : Cond.code yX11_led cX11_led 4 (some .int) ∈ wsL_law0 := mL34 _ (List.mem_of_getElem? (i := 23) rfl)
theorem mw840 : Cond.methodLink RL 244 yX11_thrown ∈ wsL_law0 := mL35 _ (List.mem_of_getElem? (i := 0) rfl)
theorem mw841 : Cond.instanceMethod yX11_thrown ∈ wsL_law0 := mL35 _ (List.mem_of_getElem? (i := 1) rfl)
theorem mw842 : Cond.selects RX11 yX11_thrown yX11_thrown ∈ wsL_law0 := mL35 _ (List.mem_of_getElem? (i := 2) rfl)
theorem mw843 : Cond.code yX11_thrown cX11_thrown 1 (some .int) ∈ wsL_law0 := mL35 _ (List.mem_of_getElem? (i := 3) rfl)
theorem mw844 : Cond.methodLink RL 238 yL_led ∈ wsL_law0 := mL35 _ (List.mem_of_getElem? (i := 4) rfl)
theorem mw845 : Cond.static yL_led ∈ wsL_law0 := mL35 _ (List.mem_of_getElem? (i := 5) rfl)
theorem mw846 : Cond.initialized RL ∈ wsL_law0 := mL35 _ (List.mem_of_getElem? (i := 6) rfl)
theorem mw847 : Cond.codeWith yL_led cL_led 4 (some .int) [(0, 9, 12, 13)] ∈ wsL_law0 := mL35 _ (List.mem_of_getElem? (i := 7) rfl)
abbrev vwCl : List vw_C := [(RX0, TX0, 2), (RX1, TX1, 3), (RX2, TX2, 2), (RX3, TX3, 8), (RX4, TX4, 5), (RX5, TX5, 9), (RX6, TX6, 3), (RX7, TX7, 6), (RX8, TX8, 4), (RX9, TX9, 15), (RX10, TX10, 10), (RX11, TX11, 43)]
def strL : List (String × Nat × String) := [(RX9, 103, "house"), (RX9, 167, "apart"), (RX9, 173, "motor"), (RX9, 175, "leader"), (RX9, 177, "burns"), (RX9, 179, "trim"), (RX9, 181, "mend"), (RX9, 111, "by"), (RX9, 119, "reel"), (RX9, 124, "town"), (RX9, 129, "mark"), (RX9, 134, "join"), (RX9, 139, "weak"), (RX9, 144, "man"), (RX9, 149, "shows"), (RX9, 154, "boys"), (RX9, 159, "seen"), (RX9, 287, "scratch"), (RX9, 203, "frames"), (RX9, 205, "first"), (RX9, 207, "whole"), (RX9, 215, "trust"), (RX9, 235, "lacks"), (RX9, 243, "snaps"), (RX9, 251, "clean"), (RX9, 253, "early"), (RX9, 255, "late"), (RX9, 257, "misled"), (RX9, 249, "slip"), (RX9, 270, "ride"), (RX9, 272, "falls"), (RX9, 277, "black"), (RX9, 279, "lost"), (RX11, 152, "house"), (RX11, 262, "apart"), (RX11, 268, "motor"), (RX11, 269, "leader"), (RX11, 271, "burns"), (RX11, 273, "trim"), (RX11, 275, "mend"), (RX11, 154, "reel"), (RX11, 156, "town"), (RX11, 158, "mark"), (RX11, 160, "join"), (RX11, 162, "weak"), (RX11, 164, "man"), (RX11, 166, "shows"), (RX11, 168, "boys"), (RX11, 170, "by"), (RX11, 172, "seen"), (RX11, 174, "scratch"), (RX11, 281, "frames"), (RX11, 283, "first"), (RX11, 285, "whole"), (RX11, 286, "trust"), (RX11, 294, "lacks"), (RX11, 296, "snaps"), (RX11, 298, "clean"), (RX11, 300, "early"), (RX11, 302, "late"), (RX11, 304, "misled"), (RX11, 306, "slip"), (RX11, 312, "ride"), (RX11, 314, "falls"), (RX11, 316, "black"), (RX11, 318, "lost")]
def nestL : List (String × Nat × MethodName × String) := [(RX10, 9, yX9_init, RX10), (RX9, 17, yX3_init, RX10), (RX3, 9, yX7_init, RX10), (RX10, 18, yX3_init, RX10), (RX10, 25, yX7_init, RX10), (RX4, 30, yX7_init, RX10), (RX10, 39, yX5_init, RX10), (RX10, 46, yX0_init, RX10), (RX10, 53, yX6_init, RX10), (RX10, 60, yX1_init, RX10), (RX10, 67, yX2_init, RX10)]
