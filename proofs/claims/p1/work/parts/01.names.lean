-- ===== PART A: goes FIRST, ahead of the names: the tables' words, and 'selects' of the private methods out of them =====
/-- a private method of a class that the tables say can be made, by its rows of tables_1 -/
def lw_okq (q : MethodName × Nat) : Prop := (q.1.cls ≠ "java/lang/invoke/MethodHandle" ∧ q.1.cls ≠ "java/lang/invoke/VarHandle") ∧ Cond.instantiable q.1.cls q.2 ∈ tables_1 ∧ Cond.privateMethod q.1 ∈ tables_1 ∧ Cond.instanceMethod q.1 ∈ tables_1
theorem lw_p0 : lw_okq (⟨"ReelChange", "refuse", "(I)I"⟩, 10) := ⟨⟨by decide +kernel, by decide +kernel⟩, List.mem_of_getElem? (i := 25) (by decide +kernel), List.mem_of_getElem? (i := 399) (by decide +kernel), List.mem_of_getElem? (i := 400) (by decide +kernel)⟩
theorem lw_p1 : lw_okq (⟨"ReelChange$Text", "next", "()V"⟩, 15) := ⟨⟨by decide +kernel, by decide +kernel⟩, List.mem_of_getElem? (i := 33) (by decide +kernel), List.mem_of_getElem? (i := 421) (by decide +kernel), List.mem_of_getElem? (i := 422) (by decide +kernel)⟩
theorem lw_p2 : lw_okq (⟨"ReelChange$Text", "kindAt", "(I)I"⟩, 15) := ⟨⟨by decide +kernel, by decide +kernel⟩, List.mem_of_getElem? (i := 33) (by decide +kernel), List.mem_of_getElem? (i := 425) (by decide +kernel), List.mem_of_getElem? (i := 426) (by decide +kernel)⟩
theorem lw_p3 : lw_okq (⟨"ReelChange$Text", "isLine", "()Z"⟩, 15) := ⟨⟨by decide +kernel, by decide +kernel⟩, List.mem_of_getElem? (i := 33) (by decide +kernel), List.mem_of_getElem? (i := 430) (by decide +kernel), List.mem_of_getElem? (i := 431) (by decide +kernel)⟩
theorem lw_p4 : lw_okq (⟨"ReelChange$Text", "is", "(Ljava/lang/String;)Z"⟩, 15) := ⟨⟨by decide +kernel, by decide +kernel⟩, List.mem_of_getElem? (i := 33) (by decide +kernel), List.mem_of_getElem? (i := 435) (by decide +kernel), List.mem_of_getElem? (i := 436) (by decide +kernel)⟩
theorem lw_p5 : lw_okq (⟨"ReelChange$Text", "isHouseLine", "()Z"⟩, 15) := ⟨⟨by decide +kernel, by decide +kernel⟩, List.mem_of_getElem? (i := 33) (by decide +kernel), List.mem_of_getElem? (i := 487) (by decide +kernel), List.mem_of_getElem? (i := 488) (by decide +kernel)⟩
theorem lw_p6 : lw_okq (⟨"ReelChange$Text", "refuseAt", "(II)Z"⟩, 15) := ⟨⟨by decide +kernel, by decide +kernel⟩, List.mem_of_getElem? (i := 33) (by decide +kernel), List.mem_of_getElem? (i := 491) (by decide +kernel), List.mem_of_getElem? (i := 492) (by decide +kernel)⟩
theorem lw_p7 : lw_okq (⟨"ReelChange$Text", "isNumber", "(Ljava/lang/String;III)Z"⟩, 15) := ⟨⟨by decide +kernel, by decide +kernel⟩, List.mem_of_getElem? (i := 33) (by decide +kernel), List.mem_of_getElem? (i := 496) (by decide +kernel), List.mem_of_getElem? (i := 497) (by decide +kernel)⟩
theorem lw_p8 : lw_okq (⟨"ReelChange$Text", "isLabel", "(Ljava/lang/String;)Z"⟩, 15) := ⟨⟨by decide +kernel, by decide +kernel⟩, List.mem_of_getElem? (i := 33) (by decide +kernel), List.mem_of_getElem? (i := 500) (by decide +kernel), List.mem_of_getElem? (i := 501) (by decide +kernel)⟩
theorem lw_p9 : lw_okq (⟨"ReelChange$Text", "isWhole", "(II)Z"⟩, 15) := ⟨⟨by decide +kernel, by decide +kernel⟩, List.mem_of_getElem? (i := 33) (by decide +kernel), List.mem_of_getElem? (i := 504) (by decide +kernel), List.mem_of_getElem? (i := 505) (by decide +kernel)⟩
theorem lw_p10 : lw_okq (⟨"ReelChange$Text", "isReserved", "()Z"⟩, 15) := ⟨⟨by decide +kernel, by decide +kernel⟩, List.mem_of_getElem? (i := 33) (by decide +kernel), List.mem_of_getElem? (i := 518) (by decide +kernel), List.mem_of_getElem? (i := 519) (by decide +kernel)⟩
theorem lw_p11 : lw_okq (⟨"ReelChange$Text", "isReelLine", "()Z"⟩, 15) := ⟨⟨by decide +kernel, by decide +kernel⟩, List.mem_of_getElem? (i := 33) (by decide +kernel), List.mem_of_getElem? (i := 532) (by decide +kernel), List.mem_of_getElem? (i := 533) (by decide +kernel)⟩
theorem lw_p12 : lw_okq (⟨"ReelChange$Text", "hasRoom", "(LReelChange$Table;)Z"⟩, 15) := ⟨⟨by decide +kernel, by decide +kernel⟩, List.mem_of_getElem? (i := 33) (by decide +kernel), List.mem_of_getElem? (i := 536) (by decide +kernel), List.mem_of_getElem? (i := 537) (by decide +kernel)⟩
theorem lw_p13 : lw_okq (⟨"ReelChange$Text", "isNewName", "(II)Z"⟩, 15) := ⟨⟨by decide +kernel, by decide +kernel⟩, List.mem_of_getElem? (i := 33) (by decide +kernel), List.mem_of_getElem? (i := 544) (by decide +kernel), List.mem_of_getElem? (i := 545) (by decide +kernel)⟩
theorem lw_p14 : lw_okq (⟨"ReelChange$Text", "findName", "()I"⟩, 15) := ⟨⟨by decide +kernel, by decide +kernel⟩, List.mem_of_getElem? (i := 33) (by decide +kernel), List.mem_of_getElem? (i := 548) (by decide +kernel), List.mem_of_getElem? (i := 549) (by decide +kernel)⟩
theorem lw_p15 : lw_okq (⟨"ReelChange$Text", "isTownLine", "()Z"⟩, 15) := ⟨⟨by decide +kernel, by decide +kernel⟩, List.mem_of_getElem? (i := 33) (by decide +kernel), List.mem_of_getElem? (i := 561) (by decide +kernel), List.mem_of_getElem? (i := 562) (by decide +kernel)⟩
def lw_privs_1 : List (MethodName × Nat) := [(⟨"ReelChange", "refuse", "(I)I"⟩, 10), (⟨"ReelChange$Text", "next", "()V"⟩, 15), (⟨"ReelChange$Text", "kindAt", "(I)I"⟩, 15), (⟨"ReelChange$Text", "isLine", "()Z"⟩, 15), (⟨"ReelChange$Text", "is", "(Ljava/lang/String;)Z"⟩, 15), (⟨"ReelChange$Text", "isHouseLine", "()Z"⟩, 15), (⟨"ReelChange$Text", "refuseAt", "(II)Z"⟩, 15), (⟨"ReelChange$Text", "isNumber", "(Ljava/lang/String;III)Z"⟩, 15), (⟨"ReelChange$Text", "isLabel", "(Ljava/lang/String;)Z"⟩, 15), (⟨"ReelChange$Text", "isWhole", "(II)Z"⟩, 15), (⟨"ReelChange$Text", "isReserved", "()Z"⟩, 15), (⟨"ReelChange$Text", "isReelLine", "()Z"⟩, 15), (⟨"ReelChange$Text", "hasRoom", "(LReelChange$Table;)Z"⟩, 15), (⟨"ReelChange$Text", "isNewName", "(II)Z"⟩, 15), (⟨"ReelChange$Text", "findName", "()I"⟩, 15), (⟨"ReelChange$Text", "isTownLine", "()Z"⟩, 15)]
theorem lw_r1 : ∀ q ∈ lw_privs_1, lw_okq q := List.forall_mem_cons.mpr ⟨lw_p0, List.forall_mem_cons.mpr ⟨lw_p1, List.forall_mem_cons.mpr ⟨lw_p2, List.forall_mem_cons.mpr ⟨lw_p3, List.forall_mem_cons.mpr ⟨lw_p4, List.forall_mem_cons.mpr ⟨lw_p5, List.forall_mem_cons.mpr ⟨lw_p6, List.forall_mem_cons.mpr ⟨lw_p7, List.forall_mem_cons.mpr ⟨lw_p8, List.forall_mem_cons.mpr ⟨lw_p9, List.forall_mem_cons.mpr ⟨lw_p10, List.forall_mem_cons.mpr ⟨lw_p11, List.forall_mem_cons.mpr ⟨lw_p12, List.forall_mem_cons.mpr ⟨lw_p13, List.forall_mem_cons.mpr ⟨lw_p14, List.forall_mem_cons.mpr ⟨lw_p15, fun _ h => absurd h List.not_mem_nil⟩⟩⟩⟩⟩⟩⟩⟩⟩⟩⟩⟩⟩⟩⟩⟩
theorem lw_p16 : lw_okq (⟨"ReelChange$Text", "isMarkLine", "()Z"⟩, 15) := ⟨⟨by decide +kernel, by decide +kernel⟩, List.mem_of_getElem? (i := 33) (by decide +kernel), List.mem_of_getElem? (i := 566) (by decide +kernel), List.mem_of_getElem? (i := 567) (by decide +kernel)⟩
theorem lw_p17 : lw_okq (⟨"ReelChange$Text", "isOldName", "(I)Z"⟩, 15) := ⟨⟨by decide +kernel, by decide +kernel⟩, List.mem_of_getElem? (i := 33) (by decide +kernel), List.mem_of_getElem? (i := 570) (by decide +kernel), List.mem_of_getElem? (i := 571) (by decide +kernel)⟩
theorem lw_p18 : lw_okq (⟨"ReelChange$Text", "lastFrame", "(I)I"⟩, 15) := ⟨⟨by decide +kernel, by decide +kernel⟩, List.mem_of_getElem? (i := 33) (by decide +kernel), List.mem_of_getElem? (i := 578) (by decide +kernel), List.mem_of_getElem? (i := 579) (by decide +kernel)⟩
theorem lw_p19 : lw_okq (⟨"ReelChange$Text", "isJoinLine", "()Z"⟩, 15) := ⟨⟨by decide +kernel, by decide +kernel⟩, List.mem_of_getElem? (i := 33) (by decide +kernel), List.mem_of_getElem? (i := 587) (by decide +kernel), List.mem_of_getElem? (i := 588) (by decide +kernel)⟩
theorem lw_p20 : lw_okq (⟨"ReelChange$Text", "isWeakLine", "()Z"⟩, 15) := ⟨⟨by decide +kernel, by decide +kernel⟩, List.mem_of_getElem? (i := 33) (by decide +kernel), List.mem_of_getElem? (i := 592) (by decide +kernel), List.mem_of_getElem? (i := 593) (by decide +kernel)⟩
theorem lw_p21 : lw_okq (⟨"ReelChange$Text", "isManLine", "()Z"⟩, 15) := ⟨⟨by decide +kernel, by decide +kernel⟩, List.mem_of_getElem? (i := 33) (by decide +kernel), List.mem_of_getElem? (i := 597) (by decide +kernel), List.mem_of_getElem? (i := 598) (by decide +kernel)⟩
theorem lw_p22 : lw_okq (⟨"ReelChange$Text", "kindOfMan", "()I"⟩, 15) := ⟨⟨by decide +kernel, by decide +kernel⟩, List.mem_of_getElem? (i := 33) (by decide +kernel), List.mem_of_getElem? (i := 601) (by decide +kernel), List.mem_of_getElem? (i := 602) (by decide +kernel)⟩
theorem lw_p23 : lw_okq (⟨"ReelChange$Text", "isShowsLine", "()Z"⟩, 15) := ⟨⟨by decide +kernel, by decide +kernel⟩, List.mem_of_getElem? (i := 33) (by decide +kernel), List.mem_of_getElem? (i := 610) (by decide +kernel), List.mem_of_getElem? (i := 611) (by decide +kernel)⟩
theorem lw_p24 : lw_okq (⟨"ReelChange$Text", "isBoysLine", "()Z"⟩, 15) := ⟨⟨by decide +kernel, by decide +kernel⟩, List.mem_of_getElem? (i := 33) (by decide +kernel), List.mem_of_getElem? (i := 619) (by decide +kernel), List.mem_of_getElem? (i := 620) (by decide +kernel)⟩
theorem lw_p25 : lw_okq (⟨"ReelChange$Text", "isSeenLine", "()Z"⟩, 15) := ⟨⟨by decide +kernel, by decide +kernel⟩, List.mem_of_getElem? (i := 33) (by decide +kernel), List.mem_of_getElem? (i := 625) (by decide +kernel), List.mem_of_getElem? (i := 626) (by decide +kernel)⟩
theorem lw_p26 : lw_okq (⟨"ReelChange$Text", "isScratchLine", "()Z"⟩, 15) := ⟨⟨by decide +kernel, by decide +kernel⟩, List.mem_of_getElem? (i := 33) (by decide +kernel), List.mem_of_getElem? (i := 631) (by decide +kernel), List.mem_of_getElem? (i := 632) (by decide +kernel)⟩
theorem lw_p27 : lw_okq (⟨"ReelChange$Text", "isFollowed", "()Z"⟩, 15) := ⟨⟨by decide +kernel, by decide +kernel⟩, List.mem_of_getElem? (i := 33) (by decide +kernel), List.mem_of_getElem? (i := 635) (by decide +kernel), List.mem_of_getElem? (i := 636) (by decide +kernel)⟩
theorem lw_p28 : lw_okq (⟨"ReelChange", "tell", "(I)I"⟩, 10) := ⟨⟨by decide +kernel, by decide +kernel⟩, List.mem_of_getElem? (i := 25) (by decide +kernel), List.mem_of_getElem? (i := 660) (by decide +kernel), List.mem_of_getElem? (i := 661) (by decide +kernel)⟩
theorem lw_p29 : lw_okq (⟨"ReelChange", "ofPlace", "(II)I"⟩, 10) := ⟨⟨by decide +kernel, by decide +kernel⟩, List.mem_of_getElem? (i := 25) (by decide +kernel), List.mem_of_getElem? (i := 704) (by decide +kernel), List.mem_of_getElem? (i := 705) (by decide +kernel)⟩
theorem lw_p30 : lw_okq (⟨"ReelChange", "ofNight", "(III)I"⟩, 10) := ⟨⟨by decide +kernel, by decide +kernel⟩, List.mem_of_getElem? (i := 25) (by decide +kernel), List.mem_of_getElem? (i := 716) (by decide +kernel), List.mem_of_getElem? (i := 717) (by decide +kernel)⟩
theorem lw_p31 : lw_okq (⟨"ReelChange", "runNight", "(I)Z"⟩, 10) := ⟨⟨by decide +kernel, by decide +kernel⟩, List.mem_of_getElem? (i := 25) (by decide +kernel), List.mem_of_getElem? (i := 720) (by decide +kernel), List.mem_of_getElem? (i := 721) (by decide +kernel)⟩
def lw_privs_2 : List (MethodName × Nat) := [(⟨"ReelChange$Text", "isMarkLine", "()Z"⟩, 15), (⟨"ReelChange$Text", "isOldName", "(I)Z"⟩, 15), (⟨"ReelChange$Text", "lastFrame", "(I)I"⟩, 15), (⟨"ReelChange$Text", "isJoinLine", "()Z"⟩, 15), (⟨"ReelChange$Text", "isWeakLine", "()Z"⟩, 15), (⟨"ReelChange$Text", "isManLine", "()Z"⟩, 15), (⟨"ReelChange$Text", "kindOfMan", "()I"⟩, 15), (⟨"ReelChange$Text", "isShowsLine", "()Z"⟩, 15), (⟨"ReelChange$Text", "isBoysLine", "()Z"⟩, 15), (⟨"ReelChange$Text", "isSeenLine", "()Z"⟩, 15), (⟨"ReelChange$Text", "isScratchLine", "()Z"⟩, 15), (⟨"ReelChange$Text", "isFollowed", "()Z"⟩, 15), (⟨"ReelChange", "tell", "(I)I"⟩, 10), (⟨"ReelChange", "ofPlace", "(II)I"⟩, 10), (⟨"ReelChange", "ofNight", "(III)I"⟩, 10), (⟨"ReelChange", "runNight", "(I)Z"⟩, 10)]
theorem lw_r2 : ∀ q ∈ lw_privs_2, lw_okq q := List.forall_mem_cons.mpr ⟨lw_p16, List.forall_mem_cons.mpr ⟨lw_p17, List.forall_mem_cons.mpr ⟨lw_p18, List.forall_mem_cons.mpr ⟨lw_p19, List.forall_mem_cons.mpr ⟨lw_p20, List.forall_mem_cons.mpr ⟨lw_p21, List.forall_mem_cons.mpr ⟨lw_p22, List.forall_mem_cons.mpr ⟨lw_p23, List.forall_mem_cons.mpr ⟨lw_p24, List.forall_mem_cons.mpr ⟨lw_p25, List.forall_mem_cons.mpr ⟨lw_p26, List.forall_mem_cons.mpr ⟨lw_p27, List.forall_mem_cons.mpr ⟨lw_p28, List.forall_mem_cons.mpr ⟨lw_p29, List.forall_mem_cons.mpr ⟨lw_p30, List.forall_mem_cons.mpr ⟨lw_p31, fun _ h => absurd h List.not_mem_nil⟩⟩⟩⟩⟩⟩⟩⟩⟩⟩⟩⟩⟩⟩⟩⟩
theorem lw_p32 : lw_okq (⟨"ReelChange$Night", "goBy", "(II)V"⟩, 9) := ⟨⟨by decide +kernel, by decide +kernel⟩, List.mem_of_getElem? (i := 246) (by decide +kernel), List.mem_of_getElem? (i := 747) (by decide +kernel), List.mem_of_getElem? (i := 748) (by decide +kernel)⟩
theorem lw_p33 : lw_okq (⟨"ReelChange$Night", "showReel", "(LReelChange$House;LReelChange$State;II)V"⟩, 9) := ⟨⟨by decide +kernel, by decide +kernel⟩, List.mem_of_getElem? (i := 246) (by decide +kernel), List.mem_of_getElem? (i := 751) (by decide +kernel), List.mem_of_getElem? (i := 752) (by decide +kernel)⟩
theorem lw_p34 : lw_okq (⟨"ReelChange$Night", "slipNow", "()I"⟩, 9) := ⟨⟨by decide +kernel, by decide +kernel⟩, List.mem_of_getElem? (i := 246) (by decide +kernel), List.mem_of_getElem? (i := 755) (by decide +kernel), List.mem_of_getElem? (i := 756) (by decide +kernel)⟩
theorem lw_p35 : lw_okq (⟨"ReelChange$Night", "draw", "()I"⟩, 9) := ⟨⟨by decide +kernel, by decide +kernel⟩, List.mem_of_getElem? (i := 246) (by decide +kernel), List.mem_of_getElem? (i := 759) (by decide +kernel), List.mem_of_getElem? (i := 760) (by decide +kernel)⟩
theorem lw_p36 : lw_okq (⟨"ReelChange$Night", "snapWeakPlaces", "(LReelChange$House;LReelChange$State;I)V"⟩, 9) := ⟨⟨by decide +kernel, by decide +kernel⟩, List.mem_of_getElem? (i := 246) (by decide +kernel), List.mem_of_getElem? (i := 768) (by decide +kernel), List.mem_of_getElem? (i := 769) (by decide +kernel)⟩
theorem lw_p37 : lw_okq (⟨"ReelChange", "isOpen", "()Z"⟩, 10) := ⟨⟨by decide +kernel, by decide +kernel⟩, List.mem_of_getElem? (i := 25) (by decide +kernel), List.mem_of_getElem? (i := 841) (by decide +kernel), List.mem_of_getElem? (i := 842) (by decide +kernel)⟩
theorem lw_p38 : lw_okq (⟨"ReelChange", "leastSlip", "(I)I"⟩, 10) := ⟨⟨by decide +kernel, by decide +kernel⟩, List.mem_of_getElem? (i := 25) (by decide +kernel), List.mem_of_getElem? (i := 849) (by decide +kernel), List.mem_of_getElem? (i := 850) (by decide +kernel)⟩
theorem lw_p39 : lw_okq (⟨"ReelChange$State", "isMarked", "(III)Z"⟩, 6) := ⟨⟨by decide +kernel, by decide +kernel⟩, List.mem_of_getElem? (i := 45) (by decide +kernel), List.mem_of_getElem? (i := 928) (by decide +kernel), List.mem_of_getElem? (i := 929) (by decide +kernel)⟩
theorem lw_p40 : lw_okq (⟨"ReelChange", "tellPart", "(Z)J"⟩, 10) := ⟨⟨by decide +kernel, by decide +kernel⟩, List.mem_of_getElem? (i := 25) (by decide +kernel), List.mem_of_getElem? (i := 948) (by decide +kernel), List.mem_of_getElem? (i := 949) (by decide +kernel)⟩
theorem lw_p41 : lw_okq (⟨"ReelChange", "nearestMark", "(I)I"⟩, 10) := ⟨⟨by decide +kernel, by decide +kernel⟩, List.mem_of_getElem? (i := 25) (by decide +kernel), List.mem_of_getElem? (i := 968) (by decide +kernel), List.mem_of_getElem? (i := 969) (by decide +kernel)⟩
theorem lw_p42 : lw_okq (⟨"ReelChange", "farFrom", "(II)I"⟩, 10) := ⟨⟨by decide +kernel, by decide +kernel⟩, List.mem_of_getElem? (i := 25) (by decide +kernel), List.mem_of_getElem? (i := 972) (by decide +kernel), List.mem_of_getElem? (i := 973) (by decide +kernel)⟩
theorem lw_p43 : lw_okq (⟨"ReelChange", "lackedBy", "(I)I"⟩, 10) := ⟨⟨by decide +kernel, by decide +kernel⟩, List.mem_of_getElem? (i := 25) (by decide +kernel), List.mem_of_getElem? (i := 985) (by decide +kernel), List.mem_of_getElem? (i := 986) (by decide +kernel)⟩
theorem lw_p44 : lw_okq (⟨"ReelChange", "rideTrouble", "(III)I"⟩, 10) := ⟨⟨by decide +kernel, by decide +kernel⟩, List.mem_of_getElem? (i := 25) (by decide +kernel), List.mem_of_getElem? (i := 1018) (by decide +kernel), List.mem_of_getElem? (i := 1019) (by decide +kernel)⟩
theorem lw_p45 : lw_okq (⟨"ReelChange", "boysMeant", "(I)I"⟩, 10) := ⟨⟨by decide +kernel, by decide +kernel⟩, List.mem_of_getElem? (i := 25) (by decide +kernel), List.mem_of_getElem? (i := 1022) (by decide +kernel), List.mem_of_getElem? (i := 1023) (by decide +kernel)⟩
theorem lw_p46 : lw_okq (⟨"ReelChange", "apartBy", "(I)I"⟩, 10) := ⟨⟨by decide +kernel, by decide +kernel⟩, List.mem_of_getElem? (i := 25) (by decide +kernel), List.mem_of_getElem? (i := 1026) (by decide +kernel), List.mem_of_getElem? (i := 1027) (by decide +kernel)⟩
theorem lw_p47 : lw_okq (⟨"ReelChange$Riders", "soonestBack", "(I)I"⟩, 3) := ⟨⟨by decide +kernel, by decide +kernel⟩, List.mem_of_getElem? (i := 303) (by decide +kernel), List.mem_of_getElem? (i := 1035) (by decide +kernel), List.mem_of_getElem? (i := 1036) (by decide +kernel)⟩
def lw_privs_3 : List (MethodName × Nat) := [(⟨"ReelChange$Night", "goBy", "(II)V"⟩, 9), (⟨"ReelChange$Night", "showReel", "(LReelChange$House;LReelChange$State;II)V"⟩, 9), (⟨"ReelChange$Night", "slipNow", "()I"⟩, 9), (⟨"ReelChange$Night", "draw", "()I"⟩, 9), (⟨"ReelChange$Night", "snapWeakPlaces", "(LReelChange$House;LReelChange$State;I)V"⟩, 9), (⟨"ReelChange", "isOpen", "()Z"⟩, 10), (⟨"ReelChange", "leastSlip", "(I)I"⟩, 10), (⟨"ReelChange$State", "isMarked", "(III)Z"⟩, 6), (⟨"ReelChange", "tellPart", "(Z)J"⟩, 10), (⟨"ReelChange", "nearestMark", "(I)I"⟩, 10), (⟨"ReelChange", "farFrom", "(II)I"⟩, 10), (⟨"ReelChange", "lackedBy", "(I)I"⟩, 10), (⟨"ReelChange", "rideTrouble", "(III)I"⟩, 10), (⟨"ReelChange", "boysMeant", "(I)I"⟩, 10), (⟨"ReelChange", "apartBy", "(I)I"⟩, 10), (⟨"ReelChange$Riders", "soonestBack", "(I)I"⟩, 3)]
theorem lw_r3 : ∀ q ∈ lw_privs_3, lw_okq q := List.forall_mem_cons.mpr ⟨lw_p32, List.forall_mem_cons.mpr ⟨lw_p33, List.forall_mem_cons.mpr ⟨lw_p34, List.forall_mem_cons.mpr ⟨lw_p35, List.forall_mem_cons.mpr ⟨lw_p36, List.forall_mem_cons.mpr ⟨lw_p37, List.forall_mem_cons.mpr ⟨lw_p38, List.forall_mem_cons.mpr ⟨lw_p39, List.forall_mem_cons.mpr ⟨lw_p40, List.forall_mem_cons.mpr ⟨lw_p41, List.forall_mem_cons.mpr ⟨lw_p42, List.forall_mem_cons.mpr ⟨lw_p43, List.forall_mem_cons.mpr ⟨lw_p44, List.forall_mem_cons.mpr ⟨lw_p45, List.forall_mem_cons.mpr ⟨lw_p46, List.forall_mem_cons.mpr ⟨lw_p47, fun _ h => absurd h List.not_mem_nil⟩⟩⟩⟩⟩⟩⟩⟩⟩⟩⟩⟩⟩⟩⟩⟩
theorem lw_p48 : lw_okq (⟨"ReelChange$Exchanger", "sort", "(LReelChange$State;)V"⟩, 3) := ⟨⟨by decide +kernel, by decide +kernel⟩, List.mem_of_getElem? (i := 323) (by decide +kernel), List.mem_of_getElem? (i := 1071) (by decide +kernel), List.mem_of_getElem? (i := 1072) (by decide +kernel)⟩
theorem lw_p49 : lw_okq (⟨"ReelChange$Exchanger", "weigh", "(LReelChange$State;)V"⟩, 3) := ⟨⟨by decide +kernel, by decide +kernel⟩, List.mem_of_getElem? (i := 323) (by decide +kernel), List.mem_of_getElem? (i := 1078) (by decide +kernel), List.mem_of_getElem? (i := 1079) (by decide +kernel)⟩
theorem lw_p50 : lw_okq (⟨"ReelChange", "wasteByDraws", "(III)I"⟩, 10) := ⟨⟨by decide +kernel, by decide +kernel⟩, List.mem_of_getElem? (i := 25) (by decide +kernel), List.mem_of_getElem? (i := 1101) (by decide +kernel), List.mem_of_getElem? (i := 1102) (by decide +kernel)⟩
theorem lw_p51 : lw_okq (⟨"ReelChange", "refuseAct", "(I)Z"⟩, 10) := ⟨⟨by decide +kernel, by decide +kernel⟩, List.mem_of_getElem? (i := 25) (by decide +kernel), List.mem_of_getElem? (i := 1109) (by decide +kernel), List.mem_of_getElem? (i := 1110) (by decide +kernel)⟩
theorem lw_p52 : lw_okq (⟨"ReelChange", "actDone", "()Z"⟩, 10) := ⟨⟨by decide +kernel, by decide +kernel⟩, List.mem_of_getElem? (i := 25) (by decide +kernel), List.mem_of_getElem? (i := 1123) (by decide +kernel), List.mem_of_getElem? (i := 1124) (by decide +kernel)⟩
theorem lw_p53 : lw_okq (⟨"java/lang/Throwable", "fillInStackTrace", "(I)Ljava/lang/Throwable;"⟩, 6) := ⟨⟨by decide +kernel, by decide +kernel⟩, List.mem_of_getElem? (i := 1225) (by decide +kernel), List.mem_of_getElem? (i := 1223) (by decide +kernel), List.mem_of_getElem? (i := 1224) (by decide +kernel)⟩
theorem lw_p54 : lw_okq (⟨"ReelChangeModel", "good", "()V"⟩, 43) := ⟨⟨by decide +kernel, by decide +kernel⟩, List.mem_of_getElem? (i := 1250) (by decide +kernel), List.mem_of_getElem? (i := 1398) (by decide +kernel), List.mem_of_getElem? (i := 1399) (by decide +kernel)⟩
theorem lw_p55 : lw_okq (⟨"ReelChangeModel", "no", "(I)I"⟩, 43) := ⟨⟨by decide +kernel, by decide +kernel⟩, List.mem_of_getElem? (i := 1250) (by decide +kernel), List.mem_of_getElem? (i := 1405) (by decide +kernel), List.mem_of_getElem? (i := 1406) (by decide +kernel)⟩
theorem lw_p56 : lw_okq (⟨"ReelChangeModel", "next", "()V"⟩, 43) := ⟨⟨by decide +kernel, by decide +kernel⟩, List.mem_of_getElem? (i := 1250) (by decide +kernel), List.mem_of_getElem? (i := 1409) (by decide +kernel), List.mem_of_getElem? (i := 1410) (by decide +kernel)⟩
theorem lw_p57 : lw_okq (⟨"ReelChangeModel", "look", "(I)I"⟩, 43) := ⟨⟨by decide +kernel, by decide +kernel⟩, List.mem_of_getElem? (i := 1250) (by decide +kernel), List.mem_of_getElem? (i := 1413) (by decide +kernel), List.mem_of_getElem? (i := 1414) (by decide +kernel)⟩
theorem lw_p58 : lw_okq (⟨"ReelChangeModel", "readLine", "()V"⟩, 43) := ⟨⟨by decide +kernel, by decide +kernel⟩, List.mem_of_getElem? (i := 1250) (by decide +kernel), List.mem_of_getElem? (i := 1423) (by decide +kernel), List.mem_of_getElem? (i := 1424) (by decide +kernel)⟩
theorem lw_p59 : lw_okq (⟨"ReelChangeModel", "isWord", "(Ljava/lang/String;)Z"⟩, 43) := ⟨⟨by decide +kernel, by decide +kernel⟩, List.mem_of_getElem? (i := 1250) (by decide +kernel), List.mem_of_getElem? (i := 1428) (by decide +kernel), List.mem_of_getElem? (i := 1429) (by decide +kernel)⟩
theorem lw_p60 : lw_okq (⟨"ReelChangeModel", "houseLine", "()V"⟩, 43) := ⟨⟨by decide +kernel, by decide +kernel⟩, List.mem_of_getElem? (i := 1250) (by decide +kernel), List.mem_of_getElem? (i := 1434) (by decide +kernel), List.mem_of_getElem? (i := 1435) (by decide +kernel)⟩
theorem lw_p61 : lw_okq (⟨"ReelChangeModel", "bad", "(II)V"⟩, 43) := ⟨⟨by decide +kernel, by decide +kernel⟩, List.mem_of_getElem? (i := 1250) (by decide +kernel), List.mem_of_getElem? (i := 1438) (by decide +kernel), List.mem_of_getElem? (i := 1439) (by decide +kernel)⟩
theorem lw_p62 : lw_okq (⟨"ReelChangeModel", "after", "(Ljava/lang/String;II)I"⟩, 43) := ⟨⟨by decide +kernel, by decide +kernel⟩, List.mem_of_getElem? (i := 1250) (by decide +kernel), List.mem_of_getElem? (i := 1443) (by decide +kernel), List.mem_of_getElem? (i := 1444) (by decide +kernel)⟩
theorem lw_p63 : lw_okq (⟨"ReelChangeModel", "must", "(Ljava/lang/String;)V"⟩, 43) := ⟨⟨by decide +kernel, by decide +kernel⟩, List.mem_of_getElem? (i := 1250) (by decide +kernel), List.mem_of_getElem? (i := 1447) (by decide +kernel), List.mem_of_getElem? (i := 1448) (by decide +kernel)⟩
def lw_privs_4 : List (MethodName × Nat) := [(⟨"ReelChange$Exchanger", "sort", "(LReelChange$State;)V"⟩, 3), (⟨"ReelChange$Exchanger", "weigh", "(LReelChange$State;)V"⟩, 3), (⟨"ReelChange", "wasteByDraws", "(III)I"⟩, 10), (⟨"ReelChange", "refuseAct", "(I)Z"⟩, 10), (⟨"ReelChange", "actDone", "()Z"⟩, 10), (⟨"java/lang/Throwable", "fillInStackTrace", "(I)Ljava/lang/Throwable;"⟩, 6), (⟨"ReelChangeModel", "good", "()V"⟩, 43), (⟨"ReelChangeModel", "no", "(I)I"⟩, 43), (⟨"ReelChangeModel", "next", "()V"⟩, 43), (⟨"ReelChangeModel", "look", "(I)I"⟩, 43), (⟨"ReelChangeModel", "readLine", "()V"⟩, 43), (⟨"ReelChangeModel", "isWord", "(Ljava/lang/String;)Z"⟩, 43), (⟨"ReelChangeModel", "houseLine", "()V"⟩, 43), (⟨"ReelChangeModel", "bad", "(II)V"⟩, 43), (⟨"ReelChangeModel", "after", "(Ljava/lang/String;II)I"⟩, 43), (⟨"ReelChangeModel", "must", "(Ljava/lang/String;)V"⟩, 43)]
theorem lw_r4 : ∀ q ∈ lw_privs_4, lw_okq q := List.forall_mem_cons.mpr ⟨lw_p48, List.forall_mem_cons.mpr ⟨lw_p49, List.forall_mem_cons.mpr ⟨lw_p50, List.forall_mem_cons.mpr ⟨lw_p51, List.forall_mem_cons.mpr ⟨lw_p52, List.forall_mem_cons.mpr ⟨lw_p53, List.forall_mem_cons.mpr ⟨lw_p54, List.forall_mem_cons.mpr ⟨lw_p55, List.forall_mem_cons.mpr ⟨lw_p56, List.forall_mem_cons.mpr ⟨lw_p57, List.forall_mem_cons.mpr ⟨lw_p58, List.forall_mem_cons.mpr ⟨lw_p59, List.forall_mem_cons.mpr ⟨lw_p60, List.forall_mem_cons.mpr ⟨lw_p61, List.forall_mem_cons.mpr ⟨lw_p62, List.forall_mem_cons.mpr ⟨lw_p63, fun _ h => absurd h List.not_mem_nil⟩⟩⟩⟩⟩⟩⟩⟩⟩⟩⟩⟩⟩⟩⟩⟩
theorem lw_p64 : lw_okq (⟨"ReelChangeModel", "takesWord", "(Ljava/lang/String;)Z"⟩, 43) := ⟨⟨by decide +kernel, by decide +kernel⟩, List.mem_of_getElem? (i := 1250) (by decide +kernel), List.mem_of_getElem? (i := 1451) (by decide +kernel), List.mem_of_getElem? (i := 1452) (by decide +kernel)⟩
theorem lw_p65 : lw_okq (⟨"ReelChangeModel", "number", "(II)I"⟩, 43) := ⟨⟨by decide +kernel, by decide +kernel⟩, List.mem_of_getElem? (i := 1250) (by decide +kernel), List.mem_of_getElem? (i := 1455) (by decide +kernel), List.mem_of_getElem? (i := 1456) (by decide +kernel)⟩
theorem lw_p66 : lw_okq (⟨"ReelChangeModel", "numberHere", "(II)I"⟩, 43) := ⟨⟨by decide +kernel, by decide +kernel⟩, List.mem_of_getElem? (i := 1250) (by decide +kernel), List.mem_of_getElem? (i := 1459) (by decide +kernel), List.mem_of_getElem? (i := 1460) (by decide +kernel)⟩
theorem lw_p67 : lw_okq (⟨"ReelChangeModel", "opens", "(Ljava/lang/String;Z)Z"⟩, 43) := ⟨⟨by decide +kernel, by decide +kernel⟩, List.mem_of_getElem? (i := 1250) (by decide +kernel), List.mem_of_getElem? (i := 1469) (by decide +kernel), List.mem_of_getElem? (i := 1470) (by decide +kernel)⟩
theorem lw_p68 : lw_okq (⟨"ReelChangeModel", "reelLine", "()V"⟩, 43) := ⟨⟨by decide +kernel, by decide +kernel⟩, List.mem_of_getElem? (i := 1250) (by decide +kernel), List.mem_of_getElem? (i := 1473) (by decide +kernel), List.mem_of_getElem? (i := 1474) (by decide +kernel)⟩
theorem lw_p69 : lw_okq (⟨"ReelChangeModel", "newName", "(I)V"⟩, 43) := ⟨⟨by decide +kernel, by decide +kernel⟩, List.mem_of_getElem? (i := 1250) (by decide +kernel), List.mem_of_getElem? (i := 1477) (by decide +kernel), List.mem_of_getElem? (i := 1478) (by decide +kernel)⟩
theorem lw_p70 : lw_okq (⟨"ReelChangeModel", "mustName", "()V"⟩, 43) := ⟨⟨by decide +kernel, by decide +kernel⟩, List.mem_of_getElem? (i := 1250) (by decide +kernel), List.mem_of_getElem? (i := 1481) (by decide +kernel), List.mem_of_getElem? (i := 1482) (by decide +kernel)⟩
theorem lw_p71 : lw_okq (⟨"ReelChangeModel", "find", "()I"⟩, 43) := ⟨⟨by decide +kernel, by decide +kernel⟩, List.mem_of_getElem? (i := 1250) (by decide +kernel), List.mem_of_getElem? (i := 1495) (by decide +kernel), List.mem_of_getElem? (i := 1496) (by decide +kernel)⟩
theorem lw_p72 : lw_okq (⟨"ReelChangeModel", "townLine", "()V"⟩, 43) := ⟨⟨by decide +kernel, by decide +kernel⟩, List.mem_of_getElem? (i := 1250) (by decide +kernel), List.mem_of_getElem? (i := 1502) (by decide +kernel), List.mem_of_getElem? (i := 1503) (by decide +kernel)⟩
theorem lw_p73 : lw_okq (⟨"ReelChangeModel", "markLine", "()V"⟩, 43) := ⟨⟨by decide +kernel, by decide +kernel⟩, List.mem_of_getElem? (i := 1250) (by decide +kernel), List.mem_of_getElem? (i := 1507) (by decide +kernel), List.mem_of_getElem? (i := 1508) (by decide +kernel)⟩
theorem lw_p74 : lw_okq (⟨"ReelChangeModel", "reelPassed", "()I"⟩, 43) := ⟨⟨by decide +kernel, by decide +kernel⟩, List.mem_of_getElem? (i := 1250) (by decide +kernel), List.mem_of_getElem? (i := 1511) (by decide +kernel), List.mem_of_getElem? (i := 1512) (by decide +kernel)⟩
theorem lw_p75 : lw_okq (⟨"ReelChangeModel", "named", "(II)I"⟩, 43) := ⟨⟨by decide +kernel, by decide +kernel⟩, List.mem_of_getElem? (i := 1250) (by decide +kernel), List.mem_of_getElem? (i := 1515) (by decide +kernel), List.mem_of_getElem? (i := 1516) (by decide +kernel)⟩
theorem lw_p76 : lw_okq (⟨"ReelChangeModel", "frameOf", "(I)I"⟩, 43) := ⟨⟨by decide +kernel, by decide +kernel⟩, List.mem_of_getElem? (i := 1250) (by decide +kernel), List.mem_of_getElem? (i := 1519) (by decide +kernel), List.mem_of_getElem? (i := 1520) (by decide +kernel)⟩
theorem lw_p77 : lw_okq (⟨"ReelChangeModel", "joinLine", "()V"⟩, 43) := ⟨⟨by decide +kernel, by decide +kernel⟩, List.mem_of_getElem? (i := 1250) (by decide +kernel), List.mem_of_getElem? (i := 1523) (by decide +kernel), List.mem_of_getElem? (i := 1524) (by decide +kernel)⟩
theorem lw_p78 : lw_okq (⟨"ReelChangeModel", "weakLine", "()V"⟩, 43) := ⟨⟨by decide +kernel, by decide +kernel⟩, List.mem_of_getElem? (i := 1250) (by decide +kernel), List.mem_of_getElem? (i := 1528) (by decide +kernel), List.mem_of_getElem? (i := 1529) (by decide +kernel)⟩
theorem lw_p79 : lw_okq (⟨"ReelChangeModel", "manLine", "()V"⟩, 43) := ⟨⟨by decide +kernel, by decide +kernel⟩, List.mem_of_getElem? (i := 1250) (by decide +kernel), List.mem_of_getElem? (i := 1533) (by decide +kernel), List.mem_of_getElem? (i := 1534) (by decide +kernel)⟩
def lw_privs_5 : List (MethodName × Nat) := [(⟨"ReelChangeModel", "takesWord", "(Ljava/lang/String;)Z"⟩, 43), (⟨"ReelChangeModel", "number", "(II)I"⟩, 43), (⟨"ReelChangeModel", "numberHere", "(II)I"⟩, 43), (⟨"ReelChangeModel", "opens", "(Ljava/lang/String;Z)Z"⟩, 43), (⟨"ReelChangeModel", "reelLine", "()V"⟩, 43), (⟨"ReelChangeModel", "newName", "(I)V"⟩, 43), (⟨"ReelChangeModel", "mustName", "()V"⟩, 43), (⟨"ReelChangeModel", "find", "()I"⟩, 43), (⟨"ReelChangeModel", "townLine", "()V"⟩, 43), (⟨"ReelChangeModel", "markLine", "()V"⟩, 43), (⟨"ReelChangeModel", "reelPassed", "()I"⟩, 43), (⟨"ReelChangeModel", "named", "(II)I"⟩, 43), (⟨"ReelChangeModel", "frameOf", "(I)I"⟩, 43), (⟨"ReelChangeModel", "joinLine", "()V"⟩, 43), (⟨"ReelChangeModel", "weakLine", "()V"⟩, 43), (⟨"ReelChangeModel", "manLine", "()V"⟩, 43)]
theorem lw_r5 : ∀ q ∈ lw_privs_5, lw_okq q := List.forall_mem_cons.mpr ⟨lw_p64, List.forall_mem_cons.mpr ⟨lw_p65, List.forall_mem_cons.mpr ⟨lw_p66, List.forall_mem_cons.mpr ⟨lw_p67, List.forall_mem_cons.mpr ⟨lw_p68, List.forall_mem_cons.mpr ⟨lw_p69, List.forall_mem_cons.mpr ⟨lw_p70, List.forall_mem_cons.mpr ⟨lw_p71, List.forall_mem_cons.mpr ⟨lw_p72, List.forall_mem_cons.mpr ⟨lw_p73, List.forall_mem_cons.mpr ⟨lw_p74, List.forall_mem_cons.mpr ⟨lw_p75, List.forall_mem_cons.mpr ⟨lw_p76, List.forall_mem_cons.mpr ⟨lw_p77, List.forall_mem_cons.mpr ⟨lw_p78, List.forall_mem_cons.mpr ⟨lw_p79, fun _ h => absurd h List.not_mem_nil⟩⟩⟩⟩⟩⟩⟩⟩⟩⟩⟩⟩⟩⟩⟩⟩
theorem lw_p80 : lw_okq (⟨"ReelChangeModel", "opensOnce", "(Ljava/lang/String;Z)Z"⟩, 43) := ⟨⟨by decide +kernel, by decide +kernel⟩, List.mem_of_getElem? (i := 1250) (by decide +kernel), List.mem_of_getElem? (i := 1542) (by decide +kernel), List.mem_of_getElem? (i := 1543) (by decide +kernel)⟩
theorem lw_p81 : lw_okq (⟨"ReelChangeModel", "showsLine", "()V"⟩, 43) := ⟨⟨by decide +kernel, by decide +kernel⟩, List.mem_of_getElem? (i := 1250) (by decide +kernel), List.mem_of_getElem? (i := 1546) (by decide +kernel), List.mem_of_getElem? (i := 1547) (by decide +kernel)⟩
theorem lw_p82 : lw_okq (⟨"ReelChangeModel", "comma", "()Z"⟩, 43) := ⟨⟨by decide +kernel, by decide +kernel⟩, List.mem_of_getElem? (i := 1250) (by decide +kernel), List.mem_of_getElem? (i := 1550) (by decide +kernel), List.mem_of_getElem? (i := 1551) (by decide +kernel)⟩
theorem lw_p83 : lw_okq (⟨"ReelChangeModel", "boysLine", "()V"⟩, 43) := ⟨⟨by decide +kernel, by decide +kernel⟩, List.mem_of_getElem? (i := 1250) (by decide +kernel), List.mem_of_getElem? (i := 1554) (by decide +kernel), List.mem_of_getElem? (i := 1555) (by decide +kernel)⟩
theorem lw_p84 : lw_okq (⟨"ReelChangeModel", "seenLine", "()V"⟩, 43) := ⟨⟨by decide +kernel, by decide +kernel⟩, List.mem_of_getElem? (i := 1250) (by decide +kernel), List.mem_of_getElem? (i := 1560) (by decide +kernel), List.mem_of_getElem? (i := 1561) (by decide +kernel)⟩
theorem lw_p85 : lw_okq (⟨"ReelChangeModel", "scratchLine", "()V"⟩, 43) := ⟨⟨by decide +kernel, by decide +kernel⟩, List.mem_of_getElem? (i := 1250) (by decide +kernel), List.mem_of_getElem? (i := 1566) (by decide +kernel), List.mem_of_getElem? (i := 1567) (by decide +kernel)⟩
theorem lw_p86 : lw_okq (⟨"ReelChangeModel", "isReel", "(I)Z"⟩, 43) := ⟨⟨by decide +kernel, by decide +kernel⟩, List.mem_of_getElem? (i := 1250) (by decide +kernel), List.mem_of_getElem? (i := 1585) (by decide +kernel), List.mem_of_getElem? (i := 1586) (by decide +kernel)⟩
theorem lw_p87 : lw_okq (⟨"ReelChangeModel", "marksOf", "(I)I"⟩, 43) := ⟨⟨by decide +kernel, by decide +kernel⟩, List.mem_of_getElem? (i := 1250) (by decide +kernel), List.mem_of_getElem? (i := 1589) (by decide +kernel), List.mem_of_getElem? (i := 1590) (by decide +kernel)⟩
theorem lw_p88 : lw_okq (⟨"ReelChangeModel", "joinsOf", "(I)I"⟩, 43) := ⟨⟨by decide +kernel, by decide +kernel⟩, List.mem_of_getElem? (i := 1250) (by decide +kernel), List.mem_of_getElem? (i := 1593) (by decide +kernel), List.mem_of_getElem? (i := 1594) (by decide +kernel)⟩
theorem lw_p89 : lw_okq (⟨"ReelChangeModel", "isMended", "(I)Z"⟩, 43) := ⟨⟨by decide +kernel, by decide +kernel⟩, List.mem_of_getElem? (i := 1250) (by decide +kernel), List.mem_of_getElem? (i := 1597) (by decide +kernel), List.mem_of_getElem? (i := 1598) (by decide +kernel)⟩
theorem lw_p90 : lw_okq (⟨"ReelChangeModel", "weaksOf", "(I)I"⟩, 43) := ⟨⟨by decide +kernel, by decide +kernel⟩, List.mem_of_getElem? (i := 1250) (by decide +kernel), List.mem_of_getElem? (i := 1604) (by decide +kernel), List.mem_of_getElem? (i := 1605) (by decide +kernel)⟩
theorem lw_p91 : lw_okq (⟨"ReelChangeModel", "markOf", "(II)I"⟩, 43) := ⟨⟨by decide +kernel, by decide +kernel⟩, List.mem_of_getElem? (i := 1250) (by decide +kernel), List.mem_of_getElem? (i := 1612) (by decide +kernel), List.mem_of_getElem? (i := 1613) (by decide +kernel)⟩
theorem lw_p92 : lw_okq (⟨"ReelChangeModel", "isPlace", "(I)Z"⟩, 43) := ⟨⟨by decide +kernel, by decide +kernel⟩, List.mem_of_getElem? (i := 1250) (by decide +kernel), List.mem_of_getElem? (i := 1620) (by decide +kernel), List.mem_of_getElem? (i := 1621) (by decide +kernel)⟩
theorem lw_p93 : lw_okq (⟨"ReelChangeModel", "reelAt", "(I)I"⟩, 43) := ⟨⟨by decide +kernel, by decide +kernel⟩, List.mem_of_getElem? (i := 1250) (by decide +kernel), List.mem_of_getElem? (i := 1624) (by decide +kernel), List.mem_of_getElem? (i := 1625) (by decide +kernel)⟩
theorem lw_p94 : lw_okq (⟨"ReelChangeModel", "canTell", "(II)Z"⟩, 43) := ⟨⟨by decide +kernel, by decide +kernel⟩, List.mem_of_getElem? (i := 1250) (by decide +kernel), List.mem_of_getElem? (i := 1636) (by decide +kernel), List.mem_of_getElem? (i := 1637) (by decide +kernel)⟩
theorem lw_p95 : lw_okq (⟨"ReelChangeModel", "isMan", "(I)Z"⟩, 43) := ⟨⟨by decide +kernel, by decide +kernel⟩, List.mem_of_getElem? (i := 1250) (by decide +kernel), List.mem_of_getElem? (i := 1640) (by decide +kernel), List.mem_of_getElem? (i := 1641) (by decide +kernel)⟩
def lw_privs_6 : List (MethodName × Nat) := [(⟨"ReelChangeModel", "opensOnce", "(Ljava/lang/String;Z)Z"⟩, 43), (⟨"ReelChangeModel", "showsLine", "()V"⟩, 43), (⟨"ReelChangeModel", "comma", "()Z"⟩, 43), (⟨"ReelChangeModel", "boysLine", "()V"⟩, 43), (⟨"ReelChangeModel", "seenLine", "()V"⟩, 43), (⟨"ReelChangeModel", "scratchLine", "()V"⟩, 43), (⟨"ReelChangeModel", "isReel", "(I)Z"⟩, 43), (⟨"ReelChangeModel", "marksOf", "(I)I"⟩, 43), (⟨"ReelChangeModel", "joinsOf", "(I)I"⟩, 43), (⟨"ReelChangeModel", "isMended", "(I)Z"⟩, 43), (⟨"ReelChangeModel", "weaksOf", "(I)I"⟩, 43), (⟨"ReelChangeModel", "markOf", "(II)I"⟩, 43), (⟨"ReelChangeModel", "isPlace", "(I)Z"⟩, 43), (⟨"ReelChangeModel", "reelAt", "(I)I"⟩, 43), (⟨"ReelChangeModel", "canTell", "(II)Z"⟩, 43), (⟨"ReelChangeModel", "isMan", "(I)Z"⟩, 43)]
theorem lw_r6 : ∀ q ∈ lw_privs_6, lw_okq q := List.forall_mem_cons.mpr ⟨lw_p80, List.forall_mem_cons.mpr ⟨lw_p81, List.forall_mem_cons.mpr ⟨lw_p82, List.forall_mem_cons.mpr ⟨lw_p83, List.forall_mem_cons.mpr ⟨lw_p84, List.forall_mem_cons.mpr ⟨lw_p85, List.forall_mem_cons.mpr ⟨lw_p86, List.forall_mem_cons.mpr ⟨lw_p87, List.forall_mem_cons.mpr ⟨lw_p88, List.forall_mem_cons.mpr ⟨lw_p89, List.forall_mem_cons.mpr ⟨lw_p90, List.forall_mem_cons.mpr ⟨lw_p91, List.forall_mem_cons.mpr ⟨lw_p92, List.forall_mem_cons.mpr ⟨lw_p93, List.forall_mem_cons.mpr ⟨lw_p94, List.forall_mem_cons.mpr ⟨lw_p95, fun _ h => absurd h List.not_mem_nil⟩⟩⟩⟩⟩⟩⟩⟩⟩⟩⟩⟩⟩⟩⟩⟩
theorem lw_p96 : lw_okq (⟨"ReelChangeModel", "layTold", "(I)V"⟩, 43) := ⟨⟨by decide +kernel, by decide +kernel⟩, List.mem_of_getElem? (i := 1250) (by decide +kernel), List.mem_of_getElem? (i := 1644) (by decide +kernel), List.mem_of_getElem? (i := 1645) (by decide +kernel)⟩
theorem lw_p97 : lw_okq (⟨"ReelChangeModel", "layNight", "(I)V"⟩, 43) := ⟨⟨by decide +kernel, by decide +kernel⟩, List.mem_of_getElem? (i := 1250) (by decide +kernel), List.mem_of_getElem? (i := 1648) (by decide +kernel), List.mem_of_getElem? (i := 1649) (by decide +kernel)⟩
theorem lw_p98 : lw_okq (⟨"ReelChangeModel", "framesAt", "(I)I"⟩, 43) := ⟨⟨by decide +kernel, by decide +kernel⟩, List.mem_of_getElem? (i := 1250) (by decide +kernel), List.mem_of_getElem? (i := 1652) (by decide +kernel), List.mem_of_getElem? (i := 1653) (by decide +kernel)⟩
theorem lw_p99 : lw_okq (⟨"ReelChangeModel", "isGone", "(I)Z"⟩, 43) := ⟨⟨by decide +kernel, by decide +kernel⟩, List.mem_of_getElem? (i := 1250) (by decide +kernel), List.mem_of_getElem? (i := 1656) (by decide +kernel), List.mem_of_getElem? (i := 1657) (by decide +kernel)⟩
theorem lw_p100 : lw_okq (⟨"ReelChangeModel", "follows", "(IIIIZ)V"⟩, 43) := ⟨⟨by decide +kernel, by decide +kernel⟩, List.mem_of_getElem? (i := 1250) (by decide +kernel), List.mem_of_getElem? (i := 1660) (by decide +kernel), List.mem_of_getElem? (i := 1661) (by decide +kernel)⟩
theorem lw_p101 : lw_okq (⟨"ReelChangeModel", "believesOf", "(II)I"⟩, 43) := ⟨⟨by decide +kernel, by decide +kernel⟩, List.mem_of_getElem? (i := 1250) (by decide +kernel), List.mem_of_getElem? (i := 1664) (by decide +kernel), List.mem_of_getElem? (i := 1665) (by decide +kernel)⟩
theorem lw_p102 : lw_okq (⟨"ReelChangeModel", "tailOf", "(I)I"⟩, 43) := ⟨⟨by decide +kernel, by decide +kernel⟩, List.mem_of_getElem? (i := 1250) (by decide +kernel), List.mem_of_getElem? (i := 1694) (by decide +kernel), List.mem_of_getElem? (i := 1695) (by decide +kernel)⟩
theorem lw_p103 : lw_okq (⟨"ReelChangeModel", "sumOf", "(I)I"⟩, 43) := ⟨⟨by decide +kernel, by decide +kernel⟩, List.mem_of_getElem? (i := 1250) (by decide +kernel), List.mem_of_getElem? (i := 1710) (by decide +kernel), List.mem_of_getElem? (i := 1711) (by decide +kernel)⟩
theorem lw_p104 : lw_okq (⟨"ReelChangeModel", "needsOf", "(I)I"⟩, 43) := ⟨⟨by decide +kernel, by decide +kernel⟩, List.mem_of_getElem? (i := 1250) (by decide +kernel), List.mem_of_getElem? (i := 1726) (by decide +kernel), List.mem_of_getElem? (i := 1727) (by decide +kernel)⟩
theorem lw_p105 : lw_okq (⟨"ReelChangeModel", "burn", "(I)Z"⟩, 43) := ⟨⟨by decide +kernel, by decide +kernel⟩, List.mem_of_getElem? (i := 1250) (by decide +kernel), List.mem_of_getElem? (i := 1734) (by decide +kernel), List.mem_of_getElem? (i := 1735) (by decide +kernel)⟩
theorem lw_p106 : lw_okq (⟨"ReelChangeModel", "freeOf", "(I)I"⟩, 43) := ⟨⟨by decide +kernel, by decide +kernel⟩, List.mem_of_getElem? (i := 1250) (by decide +kernel), List.mem_of_getElem? (i := 1738) (by decide +kernel), List.mem_of_getElem? (i := 1739) (by decide +kernel)⟩
theorem lw_p107 : lw_okq (⟨"ReelChangeModel", "isDot", "(II)Z"⟩, 43) := ⟨⟨by decide +kernel, by decide +kernel⟩, List.mem_of_getElem? (i := 1250) (by decide +kernel), List.mem_of_getElem? (i := 1765) (by decide +kernel), List.mem_of_getElem? (i := 1766) (by decide +kernel)⟩
theorem lw_p108 : lw_okq (⟨"ReelChangeModel", "weightOf", "(II)J"⟩, 43) := ⟨⟨by decide +kernel, by decide +kernel⟩, List.mem_of_getElem? (i := 1250) (by decide +kernel), List.mem_of_getElem? (i := 1769) (by decide +kernel), List.mem_of_getElem? (i := 1770) (by decide +kernel)⟩
theorem lw_p109 : lw_okq (⟨"ReelChangeModel", "allWeights", "(I)J"⟩, 43) := ⟨⟨by decide +kernel, by decide +kernel⟩, List.mem_of_getElem? (i := 1250) (by decide +kernel), List.mem_of_getElem? (i := 1773) (by decide +kernel), List.mem_of_getElem? (i := 1774) (by decide +kernel)⟩
theorem lw_p110 : lw_okq (⟨"ReelChangeModel", "isWeak", "(I)Z"⟩, 43) := ⟨⟨by decide +kernel, by decide +kernel⟩, List.mem_of_getElem? (i := 1250) (by decide +kernel), List.mem_of_getElem? (i := 1796) (by decide +kernel), List.mem_of_getElem? (i := 1797) (by decide +kernel)⟩
theorem lw_p111 : lw_okq (⟨"ReelChangeModel", "signsOf", "(I)I"⟩, 43) := ⟨⟨by decide +kernel, by decide +kernel⟩, List.mem_of_getElem? (i := 1250) (by decide +kernel), List.mem_of_getElem? (i := 1817) (by decide +kernel), List.mem_of_getElem? (i := 1818) (by decide +kernel)⟩
def lw_privs_7 : List (MethodName × Nat) := [(⟨"ReelChangeModel", "layTold", "(I)V"⟩, 43), (⟨"ReelChangeModel", "layNight", "(I)V"⟩, 43), (⟨"ReelChangeModel", "framesAt", "(I)I"⟩, 43), (⟨"ReelChangeModel", "isGone", "(I)Z"⟩, 43), (⟨"ReelChangeModel", "follows", "(IIIIZ)V"⟩, 43), (⟨"ReelChangeModel", "believesOf", "(II)I"⟩, 43), (⟨"ReelChangeModel", "tailOf", "(I)I"⟩, 43), (⟨"ReelChangeModel", "sumOf", "(I)I"⟩, 43), (⟨"ReelChangeModel", "needsOf", "(I)I"⟩, 43), (⟨"ReelChangeModel", "burn", "(I)Z"⟩, 43), (⟨"ReelChangeModel", "freeOf", "(I)I"⟩, 43), (⟨"ReelChangeModel", "isDot", "(II)Z"⟩, 43), (⟨"ReelChangeModel", "weightOf", "(II)J"⟩, 43), (⟨"ReelChangeModel", "allWeights", "(I)J"⟩, 43), (⟨"ReelChangeModel", "isWeak", "(I)Z"⟩, 43), (⟨"ReelChangeModel", "signsOf", "(I)I"⟩, 43)]
theorem lw_r7 : ∀ q ∈ lw_privs_7, lw_okq q := List.forall_mem_cons.mpr ⟨lw_p96, List.forall_mem_cons.mpr ⟨lw_p97, List.forall_mem_cons.mpr ⟨lw_p98, List.forall_mem_cons.mpr ⟨lw_p99, List.forall_mem_cons.mpr ⟨lw_p100, List.forall_mem_cons.mpr ⟨lw_p101, List.forall_mem_cons.mpr ⟨lw_p102, List.forall_mem_cons.mpr ⟨lw_p103, List.forall_mem_cons.mpr ⟨lw_p104, List.forall_mem_cons.mpr ⟨lw_p105, List.forall_mem_cons.mpr ⟨lw_p106, List.forall_mem_cons.mpr ⟨lw_p107, List.forall_mem_cons.mpr ⟨lw_p108, List.forall_mem_cons.mpr ⟨lw_p109, List.forall_mem_cons.mpr ⟨lw_p110, List.forall_mem_cons.mpr ⟨lw_p111, fun _ h => absurd h List.not_mem_nil⟩⟩⟩⟩⟩⟩⟩⟩⟩⟩⟩⟩⟩⟩⟩⟩
theorem lw_p112 : lw_okq (⟨"ReelChangeModel", "bestSlipOf", "(I)I"⟩, 43) := ⟨⟨by decide +kernel, by decide +kernel⟩, List.mem_of_getElem? (i := 1250) (by decide +kernel), List.mem_of_getElem? (i := 1829) (by decide +kernel), List.mem_of_getElem? (i := 1830) (by decide +kernel)⟩
theorem lw_p113 : lw_okq (⟨"ReelChangeModel", "layScratch", "(I)Z"⟩, 43) := ⟨⟨by decide +kernel, by decide +kernel⟩, List.mem_of_getElem? (i := 1250) (by decide +kernel), List.mem_of_getElem? (i := 1841) (by decide +kernel), List.mem_of_getElem? (i := 1842) (by decide +kernel)⟩
theorem lw_p114 : lw_okq (⟨"ReelChangeModel", "farOf", "(II)I"⟩, 43) := ⟨⟨by decide +kernel, by decide +kernel⟩, List.mem_of_getElem? (i := 1250) (by decide +kernel), List.mem_of_getElem? (i := 1845) (by decide +kernel), List.mem_of_getElem? (i := 1846) (by decide +kernel)⟩
theorem lw_p115 : lw_okq (⟨"ReelChangeModel", "boyWhy", "(I)I"⟩, 43) := ⟨⟨by decide +kernel, by decide +kernel⟩, List.mem_of_getElem? (i := 1250) (by decide +kernel), List.mem_of_getElem? (i := 1857) (by decide +kernel), List.mem_of_getElem? (i := 1858) (by decide +kernel)⟩
theorem lw_p116 : lw_okq (⟨"ReelChangeModel", "apartOf", "(II)I"⟩, 43) := ⟨⟨by decide +kernel, by decide +kernel⟩, List.mem_of_getElem? (i := 1250) (by decide +kernel), List.mem_of_getElem? (i := 1861) (by decide +kernel), List.mem_of_getElem? (i := 1862) (by decide +kernel)⟩
theorem lw_p117 : lw_okq (⟨"ReelChangeModel", "carry", "(II)V"⟩, 43) := ⟨⟨by decide +kernel, by decide +kernel⟩, List.mem_of_getElem? (i := 1250) (by decide +kernel), List.mem_of_getElem? (i := 1865) (by decide +kernel), List.mem_of_getElem? (i := 1866) (by decide +kernel)⟩
theorem lw_p118 : lw_okq (⟨"ReelChangeModel", "laySorted", "()V"⟩, 43) := ⟨⟨by decide +kernel, by decide +kernel⟩, List.mem_of_getElem? (i := 1250) (by decide +kernel), List.mem_of_getElem? (i := 1889) (by decide +kernel), List.mem_of_getElem? (i := 1890) (by decide +kernel)⟩
theorem lw_p119 : lw_okq (⟨"ReelChangeModel", "isEven", "(I)Z"⟩, 43) := ⟨⟨by decide +kernel, by decide +kernel⟩, List.mem_of_getElem? (i := 1250) (by decide +kernel), List.mem_of_getElem? (i := 1893) (by decide +kernel), List.mem_of_getElem? (i := 1894) (by decide +kernel)⟩
theorem lw_p120 : lw_okq (⟨"ReelChangeModel", "drawNight", "(I)V"⟩, 43) := ⟨⟨by decide +kernel, by decide +kernel⟩, List.mem_of_getElem? (i := 1250) (by decide +kernel), List.mem_of_getElem? (i := 1902) (by decide +kernel), List.mem_of_getElem? (i := 1903) (by decide +kernel)⟩
theorem lw_p121 : lw_okq (⟨"ReelChangeModel", "drawn", "()I"⟩, 43) := ⟨⟨by decide +kernel, by decide +kernel⟩, List.mem_of_getElem? (i := 1250) (by decide +kernel), List.mem_of_getElem? (i := 1906) (by decide +kernel), List.mem_of_getElem? (i := 1907) (by decide +kernel)⟩
theorem lw_p122 : lw_okq (⟨"ReelChangeModel", "isNot", "(I)Z"⟩, 43) := ⟨⟨by decide +kernel, by decide +kernel⟩, List.mem_of_getElem? (i := 1250) (by decide +kernel), List.mem_of_getElem? (i := 1920) (by decide +kernel), List.mem_of_getElem? (i := 1921) (by decide +kernel)⟩
theorem lw_p123 : lw_okq (⟨"ReelChangeModel", "note", "()V"⟩, 43) := ⟨⟨by decide +kernel, by decide +kernel⟩, List.mem_of_getElem? (i := 1250) (by decide +kernel), List.mem_of_getElem? (i := 1924) (by decide +kernel), List.mem_of_getElem? (i := 1925) (by decide +kernel)⟩
def lw_privs_8 : List (MethodName × Nat) := [(⟨"ReelChangeModel", "bestSlipOf", "(I)I"⟩, 43), (⟨"ReelChangeModel", "layScratch", "(I)Z"⟩, 43), (⟨"ReelChangeModel", "farOf", "(II)I"⟩, 43), (⟨"ReelChangeModel", "boyWhy", "(I)I"⟩, 43), (⟨"ReelChangeModel", "apartOf", "(II)I"⟩, 43), (⟨"ReelChangeModel", "carry", "(II)V"⟩, 43), (⟨"ReelChangeModel", "laySorted", "()V"⟩, 43), (⟨"ReelChangeModel", "isEven", "(I)Z"⟩, 43), (⟨"ReelChangeModel", "drawNight", "(I)V"⟩, 43), (⟨"ReelChangeModel", "drawn", "()I"⟩, 43), (⟨"ReelChangeModel", "isNot", "(I)Z"⟩, 43), (⟨"ReelChangeModel", "note", "()V"⟩, 43)]
theorem lw_r8 : ∀ q ∈ lw_privs_8, lw_okq q := List.forall_mem_cons.mpr ⟨lw_p112, List.forall_mem_cons.mpr ⟨lw_p113, List.forall_mem_cons.mpr ⟨lw_p114, List.forall_mem_cons.mpr ⟨lw_p115, List.forall_mem_cons.mpr ⟨lw_p116, List.forall_mem_cons.mpr ⟨lw_p117, List.forall_mem_cons.mpr ⟨lw_p118, List.forall_mem_cons.mpr ⟨lw_p119, List.forall_mem_cons.mpr ⟨lw_p120, List.forall_mem_cons.mpr ⟨lw_p121, List.forall_mem_cons.mpr ⟨lw_p122, List.forall_mem_cons.mpr ⟨lw_p123, fun _ h => absurd h List.not_mem_nil⟩⟩⟩⟩⟩⟩⟩⟩⟩⟩⟩⟩
def lw_privs : List (MethodName × Nat) := lw_privs_1 ++ (lw_privs_2 ++ (lw_privs_3 ++ (lw_privs_4 ++ (lw_privs_5 ++ (lw_privs_6 ++ (lw_privs_7 ++ (lw_privs_8)))))))
def lw_tbl : List Cond := k2_sels lw_privs ++ tables_1
theorem lw_privs_ok : ∀ q ∈ lw_privs, lw_okq q := by
  show ∀ q ∈ lw_privs_1 ++ (lw_privs_2 ++ (lw_privs_3 ++ (lw_privs_4 ++ (lw_privs_5 ++ (lw_privs_6 ++ (lw_privs_7 ++ (lw_privs_8))))))), lw_okq q
  exact List.forall_mem_append.mpr ⟨lw_r1, List.forall_mem_append.mpr ⟨lw_r2, List.forall_mem_append.mpr ⟨lw_r3, List.forall_mem_append.mpr ⟨lw_r4, List.forall_mem_append.mpr ⟨lw_r5, List.forall_mem_append.mpr ⟨lw_r6, List.forall_mem_append.mpr ⟨lw_r7, lw_r8⟩⟩⟩⟩⟩⟩⟩
def RX0 : String := "ReelChange$Arcs"
def TX0 : u_T := fun k => match k with
  | 0 => ("ReelChange$Arcs", "left", "LReelChange$Table;", true)
  | _ => ("ReelChange$Arcs", "dying", "I", false)
def tyX0 : Nat → FieldType := fun k => match k with
  | 0 => .object "ReelChange$Table"
  | _ => .int
abbrev wsX00 : List Cond := u_ws RX0 TX0 2
theorem nmX0 : ∀ a, a < 2 → ∀ b, b < 2 → a ≠ b → (TX0 a).2.1 ≠ (TX0 b).2.1 := by decide +kernel
theorem tyX0_ok : ∀ k, k < 2 → parseFieldDescriptor (TX0 k).2.2.1 = some (tyX0 k) := by decide +kernel
abbrev cX0_init : ByteArray := prog_2_method_1_code
def yX0_init : MethodName := ⟨RX0, "<init>", "()V"⟩
abbrev cX0_burn : ByteArray := prog_2_method_2_code
def yX0_burn : MethodName := ⟨RX0, "burn", "(LReelChange$House;LReelChange$Night;I)V"⟩
abbrev cX0_firstDying : ByteArray := prog_2_method_3_code
def yX0_firstDying : MethodName := ⟨RX0, "firstDying", "()I"⟩
abbrev cX0_fewestTrims : ByteArray := prog_2_method_4_code
def yX0_fewestTrims : MethodName := ⟨RX0, "fewestTrims", "(LReelChange$House;LReelChange$Night;)I"⟩
def RX1 : String := "ReelChange$Exchanger"
def TX1 : u_T := fun k => match k with
  | 0 => ("ReelChange$Exchanger", "inOrder", "LReelChange$Table;", true)
  | 1 => ("ReelChange$Exchanger", "parts", "LReelChange$Table;", true)
  | _ => ("ReelChange$Exchanger", "surplus", "[J", true)
def tyX1 : Nat → FieldType := fun k => match k with
  | 0 => .object "ReelChange$Table"
  | 1 => .object "ReelChange$Table"
  | _ => .array .long
abbrev wsX10 : List Cond := u_ws RX1 TX1 3
theorem nmX1 : ∀ a, a < 3 → ∀ b, b < 3 → a ≠ b → (TX1 a).2.1 ≠ (TX1 b).2.1 := by decide +kernel
theorem tyX1_ok : ∀ k, k < 3 → parseFieldDescriptor (TX1 k).2.2.1 = some (tyX1 k) := by decide +kernel
abbrev cX1_init : ByteArray := prog_3_method_1_code
def yX1_init : MethodName := ⟨RX1, "<init>", "()V"⟩
abbrev cX1_wrongPlaces : ByteArray := prog_3_method_2_code
def yX1_wrongPlaces : MethodName := ⟨RX1, "wrongPlaces", "(LReelChange$State;)I"⟩
abbrev cX1_fewest : ByteArray := prog_3_method_3_code
def yX1_fewest : MethodName := ⟨RX1, "fewest", "(LReelChange$State;)I"⟩
abbrev cX1_sort : ByteArray := prog_3_method_4_code
def yX1_sort : MethodName := ⟨RX1, "sort", "(LReelChange$State;)V"⟩
abbrev cX1_weigh : ByteArray := prog_3_method_5_code
def yX1_weigh : MethodName := ⟨RX1, "weigh", "(LReelChange$State;)V"⟩
abbrev cX1_unit : ByteArray := prog_3_method_6_code
def yX1_unit : MethodName := ⟨RX1, "unit", "(I)J"⟩
def RX2 : String := "ReelChange$Fraction"
def TX2 : u_T := fun k => match k with
  | 0 => ("ReelChange$Fraction", "upper", "J", false)
  | _ => ("ReelChange$Fraction", "lower", "J", false)
def tyX2 : Nat → FieldType := fun k => match k with
  | 0 => .long
  | _ => .long
abbrev wsX20 : List Cond := u_ws RX2 TX2 2
theorem nmX2 : ∀ a, a < 2 → ∀ b, b < 2 → a ≠ b → (TX2 a).2.1 ≠ (TX2 b).2.1 := by decide +kernel
theorem tyX2_ok : ∀ k, k < 2 → parseFieldDescriptor (TX2 k).2.2.1 = some (tyX2 k) := by decide +kernel
abbrev cX2_init : ByteArray := prog_4_method_1_code
def yX2_init : MethodName := ⟨RX2, "<init>", "()V"⟩
abbrev cX2_set : ByteArray := prog_4_method_2_code
def yX2_set : MethodName := ⟨RX2, "set", "(JJ)V"⟩
abbrev cX2_setPower : ByteArray := prog_4_method_3_code
def yX2_setPower : MethodName := ⟨RX2, "setPower", "(III)V"⟩
abbrev cX2_reduce : ByteArray := prog_4_method_4_code
def yX2_reduce : MethodName := ⟨RX2, "reduce", "()V"⟩
def RX3 : String := "ReelChange$House"
def TX3 : u_T := fun k => match k with
  | 0 => ("ReelChange$House", "atFirst", "LReelChange$State;", true)
  | 1 => ("ReelChange$House", "numbers", "LReelChange$Table;", true)
  | 2 => ("ReelChange$House", "towns", "LReelChange$Table;", true)
  | 3 => ("ReelChange$House", "joins", "LReelChange$Table;", true)
  | 4 => ("ReelChange$House", "men", "LReelChange$Table;", true)
  | 5 => ("ReelChange$House", "boys", "LReelChange$Table;", true)
  | 6 => ("ReelChange$House", "signs", "LReelChange$Table;", true)
  | _ => ("ReelChange$House", "scratches", "LReelChange$Table;", true)
def tyX3 : Nat → FieldType := fun k => match k with
  | 0 => .object "ReelChange$State"
  | 1 => .object "ReelChange$Table"
  | 2 => .object "ReelChange$Table"
  | 3 => .object "ReelChange$Table"
  | 4 => .object "ReelChange$Table"
  | 5 => .object "ReelChange$Table"
  | 6 => .object "ReelChange$Table"
  | _ => .object "ReelChange$Table"
abbrev wsX30 : List Cond := u_ws RX3 TX3 8
theorem nmX3 : ∀ a, a < 8 → ∀ b, b < 8 → a ≠ b → (TX3 a).2.1 ≠ (TX3 b).2.1 := by decide +kernel
theorem tyX3_ok : ∀ k, k < 8 → parseFieldDescriptor (TX3 k).2.2.1 = some (tyX3 k) := by decide +kernel
abbrev cX3_init : ByteArray := prog_5_method_1_code
def yX3_init : MethodName := ⟨RX3, "<init>", "()V"⟩
abbrev cX3_number : ByteArray := prog_5_method_2_code
def yX3_number : MethodName := ⟨RX3, "number", "(I)I"⟩
abbrev cX3_clear : ByteArray := prog_5_method_3_code
def yX3_clear : MethodName := ⟨RX3, "clear", "()V"⟩
abbrev cX3_copyFrom : ByteArray := prog_5_method_4_code
def yX3_copyFrom : MethodName := ⟨RX3, "copyFrom", "(LReelChange$House;)V"⟩
def RX4 : String := "ReelChange$Kept"
def TX4 : u_T := fun k => match k with
  | 0 => ("ReelChange$Kept", "ahead", "[LReelChange$State;", true)
  | 1 => ("ReelChange$Kept", "images", "[LReelChange$State;", true)
  | 2 => ("ReelChange$Kept", "acts", "I", false)
  | 3 => ("ReelChange$Kept", "next", "I", false)
  | _ => ("ReelChange$Kept", "imaged", "I", false)
def tyX4 : Nat → FieldType := fun k => match k with
  | 0 => .array (.object "ReelChange$State")
  | 1 => .array (.object "ReelChange$State")
  | 2 => .int
  | 3 => .int
  | _ => .int
abbrev wsX40 : List Cond := u_ws RX4 TX4 5
theorem nmX4 : ∀ a, a < 5 → ∀ b, b < 5 → a ≠ b → (TX4 a).2.1 ≠ (TX4 b).2.1 := by decide +kernel
theorem tyX4_ok : ∀ k, k < 5 → parseFieldDescriptor (TX4 k).2.2.1 = some (tyX4 k) := by decide +kernel
abbrev cX4_init : ByteArray := prog_6_method_1_code
def yX4_init : MethodName := ⟨RX4, "<init>", "()V"⟩
abbrev cX4_forget : ByteArray := prog_6_method_2_code
def yX4_forget : MethodName := ⟨RX4, "forget", "()V"⟩
abbrev cX4_keep : ByteArray := prog_6_method_3_code
def yX4_keep : MethodName := ⟨RX4, "keep", "(LReelChange$State;)V"⟩
abbrev cX4_takeBack : ByteArray := prog_6_method_4_code
def yX4_takeBack : MethodName := ⟨RX4, "takeBack", "(LReelChange$State;)Z"⟩
abbrev cX4_takeImage : ByteArray := prog_6_method_5_code
def yX4_takeImage : MethodName := ⟨RX4, "takeImage", "(LReelChange$State;)I"⟩
abbrev cX4_goBack : ByteArray := prog_6_method_6_code
def yX4_goBack : MethodName := ⟨RX4, "goBack", "(ILReelChange$State;)Z"⟩
abbrev cX4_slot : ByteArray := prog_6_method_7_code
def yX4_slot : MethodName := ⟨RX4, "slot", "([LReelChange$State;I)LReelChange$State;"⟩
def RX5 : String := "ReelChange$Night"
def TX5 : u_T := fun k => match k with
  | 0 => ("ReelChange$Night", "rows", "LReelChange$Table;", true)
  | 1 => ("ReelChange$Night", "snapped", "I", false)
  | 2 => ("ReelChange$Night", "mostSlip", "I", false)
  | 3 => ("ReelChange$Night", "slip", "I", false)
  | 4 => ("ReelChange$Night", "isDrawn", "Z", false)
  | 5 => ("ReelChange$Night", "seed", "I", false)
  | 6 => ("ReelChange$Night", "tick", "I", false)
  | 7 => ("ReelChange$Night", "motorTick", "I", false)
  | _ => ("ReelChange$Night", "ahead", "I", false)
def tyX5 : Nat → FieldType := fun k => match k with
  | 0 => .object "ReelChange$Table"
  | 1 => .int
  | 2 => .int
  | 3 => .int
  | 4 => .boolean
  | 5 => .int
  | 6 => .int
  | 7 => .int
  | _ => .int
abbrev wsX50 : List Cond := u_ws RX5 TX5 9
theorem nmX5 : ∀ a, a < 9 → ∀ b, b < 9 → a ≠ b → (TX5 a).2.1 ≠ (TX5 b).2.1 := by decide +kernel
theorem tyX5_ok : ∀ k, k < 9 → parseFieldDescriptor (TX5 k).2.2.1 = some (tyX5 k) := by decide +kernel
abbrev cX5_init : ByteArray := prog_7_method_1_code
def yX5_init : MethodName := ⟨RX5, "<init>", "()V"⟩
abbrev cX5_meet : ByteArray := prog_7_method_2_code
def yX5_meet : MethodName := ⟨RX5, "meet", "(LReelChange$House;LReelChange$State;I)V"⟩
abbrev cX5_slipBy : ByteArray := prog_7_method_3_code
def yX5_slipBy : MethodName := ⟨RX5, "slipBy", "(I)V"⟩
abbrev cX5_drawBy : ByteArray := prog_7_method_4_code
def yX5_drawBy : MethodName := ⟨RX5, "drawBy", "(I)V"⟩
abbrev cX5_run : ByteArray := prog_7_method_5_code
def yX5_run : MethodName := ⟨RX5, "run", "(LReelChange$House;LReelChange$State;)V"⟩
abbrev cX5_goBy : ByteArray := prog_7_method_6_code
def yX5_goBy : MethodName := ⟨RX5, "goBy", "(II)V"⟩
abbrev cX5_showReel : ByteArray := prog_7_method_7_code
def yX5_showReel : MethodName := ⟨RX5, "showReel", "(LReelChange$House;LReelChange$State;II)V"⟩
abbrev cX5_slipNow : ByteArray := prog_7_method_8_code
def yX5_slipNow : MethodName := ⟨RX5, "slipNow", "()I"⟩
abbrev cX5_snapWeakPlaces : ByteArray := prog_7_method_9_code
def yX5_snapWeakPlaces : MethodName := ⟨RX5, "snapWeakPlaces", "(LReelChange$House;LReelChange$State;I)V"⟩
abbrev cX5_draw : ByteArray := prog_7_method_10_code
def yX5_draw : MethodName := ⟨RX5, "draw", "()I"⟩
abbrev cX5_sum : ByteArray := prog_7_method_11_code
def yX5_sum : MethodName := ⟨RX5, "sum", "(I)I"⟩
abbrev cX5_waste : ByteArray := prog_7_method_12_code
def yX5_waste : MethodName := ⟨RX5, "waste", "()I"⟩
abbrev cX5_endTick : ByteArray := prog_7_method_13_code
def yX5_endTick : MethodName := ⟨RX5, "endTick", "()I"⟩
abbrev cX5_worstChange : ByteArray := prog_7_method_14_code
def yX5_worstChange : MethodName := ⟨RX5, "worstChange", "()I"⟩
abbrev cX5_exactThread : ByteArray := prog_7_method_15_code
def yX5_exactThread : MethodName := ⟨RX5, "exactThread", "(LReelChange$House;I)I"⟩
abbrev cX5_signsSo : ByteArray := prog_7_method_16_code
def yX5_signsSo : MethodName := ⟨RX5, "signsSo", "(LReelChange$House;)I"⟩
abbrev cX5_needed : ByteArray := prog_7_method_17_code
def yX5_needed : MethodName := ⟨RX5, "needed", "(I)I"⟩
abbrev cX5_idle : ByteArray := prog_7_method_18_code
def yX5_idle : MethodName := ⟨RX5, "idle", "(I)I"⟩
def RX6 : String := "ReelChange$Riders"
def TX6 : u_T := fun k => match k with
  | 0 => ("ReelChange$Riders", "backAt", "LReelChange$Table;", true)
  | 1 => ("ReelChange$Riders", "apartNeeded", "I", false)
  | _ => ("ReelChange$Riders", "waited", "I", false)
def tyX6 : Nat → FieldType := fun k => match k with
  | 0 => .object "ReelChange$Table"
  | 1 => .int
  | _ => .int
abbrev wsX60 : List Cond := u_ws RX6 TX6 3
theorem nmX6 : ∀ a, a < 3 → ∀ b, b < 3 → a ≠ b → (TX6 a).2.1 ≠ (TX6 b).2.1 := by decide +kernel
theorem tyX6_ok : ∀ k, k < 3 → parseFieldDescriptor (TX6 k).2.2.1 = some (tyX6 k) := by decide +kernel
abbrev cX6_init : ByteArray := prog_8_method_1_code
def yX6_init : MethodName := ⟨RX6, "<init>", "()V"⟩
abbrev cX6_carry : ByteArray := prog_8_method_2_code
def yX6_carry : MethodName := ⟨RX6, "carry", "(LReelChange$Night;III)V"⟩
abbrev cX6_soonestBack : ByteArray := prog_8_method_3_code
def yX6_soonestBack : MethodName := ⟨RX6, "soonestBack", "(I)I"⟩
def RX7 : String := "ReelChange$State"
def TX7 : u_T := fun k => match k with
  | 0 => ("ReelChange$State", "reels", "LReelChange$Table;", true)
  | 1 => ("ReelChange$State", "marks", "LReelChange$Table;", true)
  | 2 => ("ReelChange$State", "weaks", "LReelChange$Table;", true)
  | 3 => ("ReelChange$State", "places", "LReelChange$Table;", true)
  | 4 => ("ReelChange$State", "mended", "I", false)
  | _ => ("ReelChange$State", "trims", "I", false)
def tyX7 : Nat → FieldType := fun k => match k with
  | 0 => .object "ReelChange$Table"
  | 1 => .object "ReelChange$Table"
  | 2 => .object "ReelChange$Table"
  | 3 => .object "ReelChange$Table"
  | 4 => .int
  | _ => .int
abbrev wsX70 : List Cond := u_ws RX7 TX7 6
theorem nmX7 : ∀ a, a < 6 → ∀ b, b < 6 → a ≠ b → (TX7 a).2.1 ≠ (TX7 b).2.1 := by decide +kernel
theorem tyX7_ok : ∀ k, k < 6 → parseFieldDescriptor (TX7 k).2.2.1 = some (tyX7 k) := by decide +kernel
abbrev cX7_init : ByteArray := prog_9_method_1_code
def yX7_init : MethodName := ⟨RX7, "<init>", "()V"⟩
abbrev cX7_clear : ByteArray := prog_9_method_2_code
def yX7_clear : MethodName := ⟨RX7, "clear", "()V"⟩
abbrev cX7_copyFrom : ByteArray := prog_9_method_3_code
def yX7_copyFrom : MethodName := ⟨RX7, "copyFrom", "(LReelChange$State;)V"⟩
abbrev cX7_reelAt : ByteArray := prog_9_method_4_code
def yX7_reelAt : MethodName := ⟨RX7, "reelAt", "(I)I"⟩
abbrev cX7_isWeak : ByteArray := prog_9_method_5_code
def yX7_isWeak : MethodName := ⟨RX7, "isWeak", "(I)Z"⟩
abbrev cX7_mendedOn : ByteArray := prog_9_method_6_code
def yX7_mendedOn : MethodName := ⟨RX7, "mendedOn", "(I)I"⟩
abbrev cX7_markBy : ByteArray := prog_9_method_7_code
def yX7_markBy : MethodName := ⟨RX7, "markBy", "(II)I"⟩
abbrev cX7_believedBy : ByteArray := prog_9_method_8_code
def yX7_believedBy : MethodName := ⟨RX7, "believedBy", "(LReelChange$Table;II)I"⟩
abbrev cX7_isMeantPerhaps : ByteArray := prog_9_method_9_code
def yX7_isMeantPerhaps : MethodName := ⟨RX7, "isMeantPerhaps", "(II)Z"⟩
abbrev cX7_isMarked : ByteArray := prog_9_method_10_code
def yX7_isMarked : MethodName := ⟨RX7, "isMarked", "(III)Z"⟩
abbrev cX7_weight : ByteArray := prog_9_method_11_code
def yX7_weight : MethodName := ⟨RX7, "weight", "(LReelChange$Table;II)I"⟩
abbrev cX7_allWeights : ByteArray := prog_9_method_12_code
def yX7_allWeights : MethodName := ⟨RX7, "allWeights", "(LReelChange$Table;I)I"⟩
abbrev cX7_likeliestFrame : ByteArray := prog_9_method_13_code
def yX7_likeliestFrame : MethodName := ⟨RX7, "likeliestFrame", "(LReelChange$Table;I)I"⟩
abbrev cX7_cutOut : ByteArray := prog_9_method_14_code
def yX7_cutOut : MethodName := ⟨RX7, "cutOut", "(I)V"⟩
abbrev cX7_pull : ByteArray := prog_9_method_15_code
def yX7_pull : MethodName := ⟨RX7, "pull", "(LReelChange$Table;III)V"⟩
abbrev cX7_sooner : ByteArray := prog_9_method_16_code
def yX7_sooner : MethodName := ⟨RX7, "sooner", "(III)I"⟩
def RX8 : String := "ReelChange$Table"
def TX8 : u_T := fun k => match k with
  | 0 => ("ReelChange$Table", "room", "I", true)
  | 1 => ("ReelChange$Table", "width", "I", true)
  | 2 => ("ReelChange$Table", "cells", "[I", true)
  | _ => ("ReelChange$Table", "count", "I", false)
def tyX8 : Nat → FieldType := fun k => match k with
  | 0 => .int
  | 1 => .int
  | 2 => .array .int
  | _ => .int
abbrev wsX80 : List Cond := u_ws RX8 TX8 4
theorem nmX8 : ∀ a, a < 4 → ∀ b, b < 4 → a ≠ b → (TX8 a).2.1 ≠ (TX8 b).2.1 := by decide +kernel
theorem tyX8_ok : ∀ k, k < 4 → parseFieldDescriptor (TX8 k).2.2.1 = some (tyX8 k) := by decide +kernel
abbrev cX8_init : ByteArray := prog_10_method_1_code
def yX8_init : MethodName := ⟨RX8, "<init>", "(II)V"⟩
abbrev cX8_has : ByteArray := prog_10_method_2_code
def yX8_has : MethodName := ⟨RX8, "has", "(I)Z"⟩
abbrev cX8_isFull : ByteArray := prog_10_method_3_code
def yX8_isFull : MethodName := ⟨RX8, "isFull", "()Z"⟩
abbrev cX8_clear : ByteArray := prog_10_method_4_code
def yX8_clear : MethodName := ⟨RX8, "clear", "()V"⟩
abbrev cX8_at : ByteArray := prog_10_method_5_code
def yX8_at : MethodName := ⟨RX8, "at", "(II)I"⟩
abbrev cX8_put : ByteArray := prog_10_method_6_code
def yX8_put : MethodName := ⟨RX8, "put", "(III)V"⟩
abbrev cX8_add : ByteArray := prog_10_method_7_code
def yX8_add : MethodName := ⟨RX8, "add", "(III)V"⟩
abbrev cX8_howMany : ByteArray := prog_10_method_8_code
def yX8_howMany : MethodName := ⟨RX8, "howMany", "(II)I"⟩
abbrev cX8_copyFrom : ByteArray := prog_10_method_9_code
def yX8_copyFrom : MethodName := ⟨RX8, "copyFrom", "(LReelChange$Table;)V"⟩
def RX9 : String := "ReelChange$Text"
def TX9 : u_T := fun k => match k with
  | 0 => ("ReelChange$Text", "taped", "I", false)
  | 1 => ("ReelChange$Text", "house", "LReelChange$House;", true)
  | 2 => ("ReelChange$Text", "faultNumber", "I", false)
  | 3 => ("ReelChange$Text", "faultPlace", "I", false)
  | 4 => ("ReelChange$Text", "tape", "[B", true)
  | 5 => ("ReelChange$Text", "end", "I", false)
  | 6 => ("ReelChange$Text", "names", "[J", true)
  | 7 => ("ReelChange$Text", "named", "LReelChange$Table;", true)
  | 8 => ("ReelChange$Text", "kind", "I", false)
  | 9 => ("ReelChange$Text", "start", "I", false)
  | 10 => ("ReelChange$Text", "position", "I", false)
  | 11 => ("ReelChange$Text", "value", "I", false)
  | 12 => ("ReelChange$Text", "letters", "J", false)
  | 13 => ("ReelChange$Text", "taken", "I", false)
  | _ => ("ReelChange$Text", "takenAt", "I", false)
def tyX9 : Nat → FieldType := fun k => match k with
  | 0 => .int
  | 1 => .object "ReelChange$House"
  | 2 => .int
  | 3 => .int
  | 4 => .array .byte
  | 5 => .int
  | 6 => .array .long
  | 7 => .object "ReelChange$Table"
  | 8 => .int
  | 9 => .int
  | 10 => .int
  | 11 => .int
  | 12 => .long
  | 13 => .int
  | _ => .int
abbrev wsX90 : List Cond := u_ws RX9 TX9 15
theorem nmX9 : ∀ a, a < 15 → ∀ b, b < 15 → a ≠ b → (TX9 a).2.1 ≠ (TX9 b).2.1 := by decide +kernel
theorem tyX9_ok : ∀ k, k < 15 → parseFieldDescriptor (TX9 k).2.2.1 = some (tyX9 k) := by decide +kernel
abbrev cX9_init : ByteArray := prog_11_method_1_code
def yX9_init : MethodName := ⟨RX9, "<init>", "()V"⟩
abbrev cX9_write : ByteArray := prog_11_method_2_code
def yX9_write : MethodName := ⟨RX9, "write", "(I)V"⟩
abbrev cX9_read : ByteArray := prog_11_method_3_code
def yX9_read : MethodName := ⟨RX9, "read", "(I)V"⟩
abbrev cX9_isFollowed : ByteArray := prog_11_method_4_code
def yX9_isFollowed : MethodName := ⟨RX9, "isFollowed", "()Z"⟩
abbrev cX9_refuseAt : ByteArray := prog_11_method_5_code
def yX9_refuseAt : MethodName := ⟨RX9, "refuseAt", "(II)Z"⟩
abbrev cX9_isLine : ByteArray := prog_11_method_6_code
def yX9_isLine : MethodName := ⟨RX9, "isLine", "()Z"⟩
abbrev cX9_isHouseLine : ByteArray := prog_11_method_7_code
def yX9_isHouseLine : MethodName := ⟨RX9, "isHouseLine", "()Z"⟩
abbrev cX9_isNumber : ByteArray := prog_11_method_8_code
def yX9_isNumber : MethodName := ⟨RX9, "isNumber", "(Ljava/lang/String;III)Z"⟩
abbrev cX9_isReelLine : ByteArray := prog_11_method_9_code
def yX9_isReelLine : MethodName := ⟨RX9, "isReelLine", "()Z"⟩
abbrev cX9_isTownLine : ByteArray := prog_11_method_10_code
def yX9_isTownLine : MethodName := ⟨RX9, "isTownLine", "()Z"⟩
abbrev cX9_isMarkLine : ByteArray := prog_11_method_11_code
def yX9_isMarkLine : MethodName := ⟨RX9, "isMarkLine", "()Z"⟩
abbrev cX9_isJoinLine : ByteArray := prog_11_method_12_code
def yX9_isJoinLine : MethodName := ⟨RX9, "isJoinLine", "()Z"⟩
abbrev cX9_isWeakLine : ByteArray := prog_11_method_13_code
def yX9_isWeakLine : MethodName := ⟨RX9, "isWeakLine", "()Z"⟩
abbrev cX9_isManLine : ByteArray := prog_11_method_14_code
def yX9_isManLine : MethodName := ⟨RX9, "isManLine", "()Z"⟩
abbrev cX9_kindOfMan : ByteArray := prog_11_method_15_code
def yX9_kindOfMan : MethodName := ⟨RX9, "kindOfMan", "()I"⟩
abbrev cX9_isShowsLine : ByteArray := prog_11_method_16_code
def yX9_isShowsLine : MethodName := ⟨RX9, "isShowsLine", "()Z"⟩
abbrev cX9_isBoysLine : ByteArray := prog_11_method_17_code
def yX9_isBoysLine : MethodName := ⟨RX9, "isBoysLine", "()Z"⟩
abbrev cX9_isSeenLine : ByteArray := prog_11_method_18_code
def yX9_isSeenLine : MethodName := ⟨RX9, "isSeenLine", "()Z"⟩
abbrev cX9_isScratchLine : ByteArray := prog_11_method_19_code
def yX9_isScratchLine : MethodName := ⟨RX9, "isScratchLine", "()Z"⟩
abbrev cX9_hasRoom : ByteArray := prog_11_method_20_code
def yX9_hasRoom : MethodName := ⟨RX9, "hasRoom", "(LReelChange$Table;)Z"⟩
abbrev cX9_isLabel : ByteArray := prog_11_method_21_code
def yX9_isLabel : MethodName := ⟨RX9, "isLabel", "(Ljava/lang/String;)Z"⟩
abbrev cX9_lastFrame : ByteArray := prog_11_method_22_code
def yX9_lastFrame : MethodName := ⟨RX9, "lastFrame", "(I)I"⟩
abbrev cX9_isWhole : ByteArray := prog_11_method_23_code
def yX9_isWhole : MethodName := ⟨RX9, "isWhole", "(II)Z"⟩
abbrev cX9_isNewName : ByteArray := prog_11_method_24_code
def yX9_isNewName : MethodName := ⟨RX9, "isNewName", "(II)Z"⟩
abbrev cX9_isOldName : ByteArray := prog_11_method_25_code
def yX9_isOldName : MethodName := ⟨RX9, "isOldName", "(I)Z"⟩
abbrev cX9_findName : ByteArray := prog_11_method_26_code
def yX9_findName : MethodName := ⟨RX9, "findName", "()I"⟩
abbrev cX9_isReserved : ByteArray := prog_11_method_27_code
def yX9_isReserved : MethodName := ⟨RX9, "isReserved", "()Z"⟩
abbrev cX9_is : ByteArray := prog_11_method_28_code
def yX9_is : MethodName := ⟨RX9, "is", "(Ljava/lang/String;)Z"⟩
abbrev cX9_next : ByteArray := prog_11_method_29_code
def yX9_next : MethodName := ⟨RX9, "next", "()V"⟩
abbrev cX9_kindAt : ByteArray := prog_11_method_30_code
def yX9_kindAt : MethodName := ⟨RX9, "kindAt", "(I)I"⟩
def RX10 : String := "ReelChange"
def TX10 : u_T := fun k => match k with
  | 0 => ("ReelChange", "text", "LReelChange$Text;", true)
  | 1 => ("ReelChange", "told", "LReelChange$House;", true)
  | 2 => ("ReelChange", "now", "LReelChange$State;", true)
  | 3 => ("ReelChange", "kept", "LReelChange$Kept;", true)
  | 4 => ("ReelChange", "night", "LReelChange$Night;", true)
  | 5 => ("ReelChange", "arcs", "LReelChange$Arcs;", true)
  | 6 => ("ReelChange", "riders", "LReelChange$Riders;", true)
  | 7 => ("ReelChange", "exchanger", "LReelChange$Exchanger;", true)
  | 8 => ("ReelChange", "fraction", "LReelChange$Fraction;", true)
  | _ => ("ReelChange", "latestTrouble", "I", false)
def tyX10 : Nat → FieldType := fun k => match k with
  | 0 => .object "ReelChange$Text"
  | 1 => .object "ReelChange$House"
  | 2 => .object "ReelChange$State"
  | 3 => .object "ReelChange$Kept"
  | 4 => .object "ReelChange$Night"
  | 5 => .object "ReelChange$Arcs"
  | 6 => .object "ReelChange$Riders"
  | 7 => .object "ReelChange$Exchanger"
  | 8 => .object "ReelChange$Fraction"
  | _ => .int
abbrev wsX100 : List Cond := u_ws RX10 TX10 10
theorem nmX10 : ∀ a, a < 10 → ∀ b, b < 10 → a ≠ b → (TX10 a).2.1 ≠ (TX10 b).2.1 := by decide +kernel
theorem tyX10_ok : ∀ k, k < 10 → parseFieldDescriptor (TX10 k).2.2.1 = some (tyX10 k) := by decide +kernel
abbrev cX10_init : ByteArray := prog_1_method_1_code
def yX10_init : MethodName := ⟨RX10, "<init>", "()V"⟩
abbrev cX10_feed : ByteArray := prog_1_method_2_code
def yX10_feed : MethodName := ⟨RX10, "feed", "(IIIII)I"⟩
abbrev cX10_house : ByteArray := prog_1_method_3_code
def yX10_house : MethodName := ⟨RX10, "house", "(I)I"⟩
abbrev cX10_fault : ByteArray := prog_1_method_4_code
def yX10_fault : MethodName := ⟨RX10, "fault", "()I"⟩
abbrev cX10_where : ByteArray := prog_1_method_5_code
def yX10_where : MethodName := ⟨RX10, "where", "()I"⟩
abbrev cX10_reel : ByteArray := prog_1_method_6_code
def yX10_reel : MethodName := ⟨RX10, "reel", "(II)I"⟩
abbrev cX10_mark : ByteArray := prog_1_method_7_code
def yX10_mark : MethodName := ⟨RX10, "mark", "(II)I"⟩
abbrev cX10_shows : ByteArray := prog_1_method_8_code
def yX10_shows : MethodName := ⟨RX10, "shows", "(I)I"⟩
abbrev cX10_thread : ByteArray := prog_1_method_9_code
def yX10_thread : MethodName := ⟨RX10, "thread", "(I)I"⟩
abbrev cX10_believes : ByteArray := prog_1_method_10_code
def yX10_believes : MethodName := ⟨RX10, "believes", "(II)I"⟩
abbrev cX10_starts : ByteArray := prog_1_method_11_code
def yX10_starts : MethodName := ⟨RX10, "starts", "(II)I"⟩
abbrev cX10_changes : ByteArray := prog_1_method_12_code
def yX10_changes : MethodName := ⟨RX10, "changes", "(II)I"⟩
abbrev cX10_lost : ByteArray := prog_1_method_13_code
def yX10_lost : MethodName := ⟨RX10, "lost", "(II)I"⟩
abbrev cX10_black : ByteArray := prog_1_method_14_code
def yX10_black : MethodName := ⟨RX10, "black", "(II)I"⟩
abbrev cX10_tail : ByteArray := prog_1_method_15_code
def yX10_tail : MethodName := ⟨RX10, "tail", "(II)I"⟩
abbrev cX10_begins : ByteArray := prog_1_method_16_code
def yX10_begins : MethodName := ⟨RX10, "begins", "(II)I"⟩
abbrev cX10_length : ByteArray := prog_1_method_17_code
def yX10_length : MethodName := ⟨RX10, "length", "(I)I"⟩
abbrev cX10_all : ByteArray := prog_1_method_18_code
def yX10_all : MethodName := ⟨RX10, "all", "(II)I"⟩
abbrev cX10_worst : ByteArray := prog_1_method_19_code
def yX10_worst : MethodName := ⟨RX10, "worst", "(I)I"⟩
abbrev cX10_exact : ByteArray := prog_1_method_20_code
def yX10_exact : MethodName := ⟨RX10, "exact", "(II)I"⟩
abbrev cX10_signs : ByteArray := prog_1_method_21_code
def yX10_signs : MethodName := ⟨RX10, "signs", "(I)I"⟩
abbrev cX10_fits : ByteArray := prog_1_method_22_code
def yX10_fits : MethodName := ⟨RX10, "fits", "()I"⟩
abbrev cX10_bestSlip : ByteArray := prog_1_method_23_code
def yX10_bestSlip : MethodName := ⟨RX10, "bestSlip", "(I)I"⟩
abbrev cX10_bySlip : ByteArray := prog_1_method_24_code
def yX10_bySlip : MethodName := ⟨RX10, "bySlip", "(I)I"⟩
abbrev cX10_needs : ByteArray := prog_1_method_25_code
def yX10_needs : MethodName := ⟨RX10, "needs", "(II)I"⟩
abbrev cX10_dies : ByteArray := prog_1_method_26_code
def yX10_dies : MethodName := ⟨RX10, "dies", "(II)I"⟩
abbrev cX10_firstDies : ByteArray := prog_1_method_27_code
def yX10_firstDies : MethodName := ⟨RX10, "firstDies", "(I)I"⟩
abbrev cX10_free : ByteArray := prog_1_method_28_code
def yX10_free : MethodName := ⟨RX10, "free", "(II)I"⟩
abbrev cX10_arc : ByteArray := prog_1_method_29_code
def yX10_arc : MethodName := ⟨RX10, "arc", "(II)I"⟩
abbrev cX10_never : ByteArray := prog_1_method_30_code
def yX10_never : MethodName := ⟨RX10, "never", "(I)I"⟩
abbrev cX10_truly : ByteArray := prog_1_method_31_code
def yX10_truly : MethodName := ⟨RX10, "truly", "(IIZ)J"⟩
abbrev cX10_likeliest : ByteArray := prog_1_method_32_code
def yX10_likeliest : MethodName := ⟨RX10, "likeliest", "(I)I"⟩
abbrev cX10_who : ByteArray := prog_1_method_33_code
def yX10_who : MethodName := ⟨RX10, "who", "(I)I"⟩
abbrev cX10_far : ByteArray := prog_1_method_34_code
def yX10_far : MethodName := ⟨RX10, "far", "(I)I"⟩
abbrev cX10_missing : ByteArray := prog_1_method_35_code
def yX10_missing : MethodName := ⟨RX10, "missing", "(IZ)I"⟩
abbrev cX10_words : ByteArray := prog_1_method_36_code
def yX10_words : MethodName := ⟨RX10, "words", "(I)I"⟩
abbrev cX10_holds : ByteArray := prog_1_method_37_code
def yX10_holds : MethodName := ⟨RX10, "holds", "(IIZ)J"⟩
abbrev cX10_pays : ByteArray := prog_1_method_38_code
def yX10_pays : MethodName := ⟨RX10, "pays", "(II)I"⟩
abbrev cX10_wears : ByteArray := prog_1_method_39_code
def yX10_wears : MethodName := ⟨RX10, "wears", "(IIZ)J"⟩
abbrev cX10_apart : ByteArray := prog_1_method_40_code
def yX10_apart : MethodName := ⟨RX10, "apart", "(II)I"⟩
abbrev cX10_waits : ByteArray := prog_1_method_41_code
def yX10_waits : MethodName := ⟨RX10, "waits", "(III)I"⟩
abbrev cX10_boys : ByteArray := prog_1_method_42_code
def yX10_boys : MethodName := ⟨RX10, "boys", "(I)I"⟩
abbrev cX10_well : ByteArray := prog_1_method_43_code
def yX10_well : MethodName := ⟨RX10, "well", "(Z)J"⟩
abbrev cX10_wrong : ByteArray := prog_1_method_44_code
def yX10_wrong : MethodName := ⟨RX10, "wrong", "()I"⟩
abbrev cX10_exchanges : ByteArray := prog_1_method_45_code
def yX10_exchanges : MethodName := ⟨RX10, "exchanges", "()I"⟩
abbrev cX10_dark : ByteArray := prog_1_method_46_code
def yX10_dark : MethodName := ⟨RX10, "dark", "(II)I"⟩
abbrev cX10_bestMan : ByteArray := prog_1_method_47_code
def yX10_bestMan : MethodName := ⟨RX10, "bestMan", "(II)I"⟩
abbrev cX10_threads : ByteArray := prog_1_method_48_code
def yX10_threads : MethodName := ⟨RX10, "threads", "(II)Z"⟩
abbrev cX10_trim : ByteArray := prog_1_method_49_code
def yX10_trim : MethodName := ⟨RX10, "trim", "(IZ)Z"⟩
abbrev cX10_mend : ByteArray := prog_1_method_50_code
def yX10_mend : MethodName := ⟨RX10, "mend", "(I)I"⟩
abbrev cX10_undo : ByteArray := prog_1_method_51_code
def yX10_undo : MethodName := ⟨RX10, "undo", "()Z"⟩
abbrev cX10_image : ByteArray := prog_1_method_52_code
def yX10_image : MethodName := ⟨RX10, "image", "()I"⟩
abbrev cX10_back : ByteArray := prog_1_method_53_code
def yX10_back : MethodName := ⟨RX10, "back", "(I)Z"⟩
abbrev cX10_led : ByteArray := prog_1_method_54_code
def yX10_led : MethodName := ⟨RX10, "led", "(I)I"⟩
abbrev cX10_size : ByteArray := prog_1_method_55_code
def yX10_size : MethodName := ⟨RX10, "size", "(I)I"⟩
abbrev cX10_trouble : ByteArray := prog_1_method_56_code
def yX10_trouble : MethodName := ⟨RX10, "trouble", "()I"⟩
abbrev cX10_refuse : ByteArray := prog_1_method_57_code
def yX10_refuse : MethodName := ⟨RX10, "refuse", "(I)I"⟩
abbrev cX10_tell : ByteArray := prog_1_method_58_code
def yX10_tell : MethodName := ⟨RX10, "tell", "(I)I"⟩
abbrev cX10_refuseAct : ByteArray := prog_1_method_59_code
def yX10_refuseAct : MethodName := ⟨RX10, "refuseAct", "(I)Z"⟩
abbrev cX10_actDone : ByteArray := prog_1_method_60_code
def yX10_actDone : MethodName := ⟨RX10, "actDone", "()Z"⟩
abbrev cX10_tellPart : ByteArray := prog_1_method_61_code
def yX10_tellPart : MethodName := ⟨RX10, "tellPart", "(Z)J"⟩
abbrev cX10_isOpen : ByteArray := prog_1_method_62_code
def yX10_isOpen : MethodName := ⟨RX10, "isOpen", "()Z"⟩
abbrev cX10_ofPlace : ByteArray := prog_1_method_63_code
def yX10_ofPlace : MethodName := ⟨RX10, "ofPlace", "(II)I"⟩
abbrev cX10_runNight : ByteArray := prog_1_method_64_code
def yX10_runNight : MethodName := ⟨RX10, "runNight", "(I)Z"⟩
abbrev cX10_ofNight : ByteArray := prog_1_method_65_code
def yX10_ofNight : MethodName := ⟨RX10, "ofNight", "(III)I"⟩
abbrev cX10_leastSlip : ByteArray := prog_1_method_66_code
def yX10_leastSlip : MethodName := ⟨RX10, "leastSlip", "(I)I"⟩
abbrev cX10_wasteByDraws : ByteArray := prog_1_method_67_code
def yX10_wasteByDraws : MethodName := ⟨RX10, "wasteByDraws", "(III)I"⟩
abbrev cX10_nearestMark : ByteArray := prog_1_method_68_code
def yX10_nearestMark : MethodName := ⟨RX10, "nearestMark", "(I)I"⟩
abbrev cX10_farFrom : ByteArray := prog_1_method_69_code
def yX10_farFrom : MethodName := ⟨RX10, "farFrom", "(II)I"⟩
abbrev cX10_lackedBy : ByteArray := prog_1_method_70_code
def yX10_lackedBy : MethodName := ⟨RX10, "lackedBy", "(I)I"⟩
abbrev cX10_rideTrouble : ByteArray := prog_1_method_71_code
def yX10_rideTrouble : MethodName := ⟨RX10, "rideTrouble", "(III)I"⟩
abbrev cX10_boysMeant : ByteArray := prog_1_method_72_code
def yX10_boysMeant : MethodName := ⟨RX10, "boysMeant", "(I)I"⟩
abbrev cX10_apartBy : ByteArray := prog_1_method_73_code
def yX10_apartBy : MethodName := ⟨RX10, "apartBy", "(I)I"⟩
def RX11 : String := "ReelChangeModel"
def TX11 : u_T := fun k => match k with
  | 0 => ("ReelChangeModel", "thrown", "I", false)
  | 1 => ("ReelChangeModel", "tape", "[I", true)
  | 2 => ("ReelChangeModel", "taped", "I", false)
  | 3 => ("ReelChangeModel", "size", "I", false)
  | 4 => ("ReelChangeModel", "at", "I", false)
  | 5 => ("ReelChangeModel", "end", "I", false)
  | 6 => ("ReelChangeModel", "token", "I", false)
  | 7 => ("ReelChangeModel", "whole", "I", false)
  | 8 => ("ReelChangeModel", "nameSize", "I", false)
  | 9 => ("ReelChangeModel", "fault", "I", false)
  | 10 => ("ReelChangeModel", "place", "I", false)
  | 11 => ("ReelChangeModel", "trouble", "I", false)
  | 12 => ("ReelChangeModel", "letters", "[I", true)
  | 13 => ("ReelChangeModel", "failed", "Z", false)
  | 14 => ("ReelChangeModel", "hasHouse", "Z", false)
  | 15 => ("ReelChangeModel", "r", "[I", true)
  | 16 => ("ReelChangeModel", "fresh", "[I", true)
  | 17 => ("ReelChangeModel", "st", "[I", true)
  | 18 => ("ReelChangeModel", "undone", "[I", true)
  | 19 => ("ReelChangeModel", "kept", "[I", true)
  | 20 => ("ReelChangeModel", "undos", "I", false)
  | 21 => ("ReelChangeModel", "images", "I", false)
  | 22 => ("ReelChangeModel", "from", "[I", true)
  | 23 => ("ReelChangeModel", "begin", "[I", true)
  | 24 => ("ReelChangeModel", "motor", "[I", true)
  | 25 => ("ReelChangeModel", "change", "[I", true)
  | 26 => ("ReelChangeModel", "startFrame", "[I", true)
  | 27 => ("ReelChangeModel", "changeFrame", "[I", true)
  | 28 => ("ReelChangeModel", "lostAt", "[I", true)
  | 29 => ("ReelChangeModel", "blackAt", "[I", true)
  | 30 => ("ReelChangeModel", "slips", "[I", true)
  | 31 => ("ReelChangeModel", "leftArc", "[I", true)
  | 32 => ("ReelChangeModel", "died", "[I", true)
  | 33 => ("ReelChangeModel", "arcs", "[I", true)
  | 34 => ("ReelChangeModel", "bestSum", "I", false)
  | 35 => ("ReelChangeModel", "nearest", "I", false)
  | 36 => ("ReelChangeModel", "nearestTown", "I", false)
  | 37 => ("ReelChangeModel", "there", "[I", true)
  | 38 => ("ReelChangeModel", "backAt", "[I", true)
  | 39 => ("ReelChangeModel", "sorted", "[I", true)
  | 40 => ("ReelChangeModel", "parts", "[I", true)
  | 41 => ("ReelChangeModel", "seed1", "I", false)
  | _ => ("ReelChangeModel", "darkNow", "I", false)
def tyX11 : Nat → FieldType := fun k => match k with
  | 0 => .int
  | 1 => .array .int
  | 2 => .int
  | 3 => .int
  | 4 => .int
  | 5 => .int
  | 6 => .int
  | 7 => .int
  | 8 => .int
  | 9 => .int
  | 10 => .int
  | 11 => .int
  | 12 => .array .int
  | 13 => .boolean
  | 14 => .boolean
  | 15 => .array .int
  | 16 => .array .int
  | 17 => .array .int
  | 18 => .array .int
  | 19 => .array .int
  | 20 => .int
  | 21 => .int
  | 22 => .array .int
  | 23 => .array .int
  | 24 => .array .int
  | 25 => .array .int
  | 26 => .array .int
  | 27 => .array .int
  | 28 => .array .int
  | 29 => .array .int
  | 30 => .array .int
  | 31 => .array .int
  | 32 => .array .int
  | 33 => .array .int
  | 34 => .int
  | 35 => .int
  | 36 => .int
  | 37 => .array .int
  | 38 => .array .int
  | 39 => .array .int
  | 40 => .array .int
  | 41 => .int
  | _ => .int
abbrev wsX110 : List Cond := u_ws RX11 TX11 43
theorem nmX11 : ∀ a, a < 43 → ∀ b, b < 43 → a ≠ b → (TX11 a).2.1 ≠ (TX11 b).2.1 := by decide +kernel
theorem tyX11_ok : ∀ k, k < 43 → parseFieldDescriptor (TX11 k).2.2.1 = some (tyX11 k) := by decide +kernel
abbrev cX11_init : ByteArray := prog_13_method_1_code
def yX11_init : MethodName := ⟨RX11, "<init>", "()V"⟩
abbrev cX11_thrown : ByteArray := prog_13_method_2_code
def yX11_thrown : MethodName := ⟨RX11, "thrown", "()I"⟩
abbrev cX11_good : ByteArray := prog_13_method_3_code
def yX11_good : MethodName := ⟨RX11, "good", "()V"⟩
abbrev cX11_no : ByteArray := prog_13_method_4_code
def yX11_no : MethodName := ⟨RX11, "no", "(I)I"⟩
abbrev cX11_isNot : ByteArray := prog_13_method_5_code
def yX11_isNot : MethodName := ⟨RX11, "isNot", "(I)Z"⟩
abbrev cX11_in : ByteArray := prog_13_method_6_code
def yX11_in : MethodName := ⟨RX11, "in", "(III)Z"⟩
abbrev cX11_hasBit : ByteArray := prog_13_method_7_code
def yX11_hasBit : MethodName := ⟨RX11, "hasBit", "(II)Z"⟩
abbrev cX11_ones : ByteArray := prog_13_method_8_code
def yX11_ones : MethodName := ⟨RX11, "ones", "(I)I"⟩
abbrev cX11_most : ByteArray := prog_13_method_9_code
def yX11_most : MethodName := ⟨RX11, "most", "(II)I"⟩
abbrev cX11_least : ByteArray := prog_13_method_10_code
def yX11_least : MethodName := ⟨RX11, "least", "(II)I"⟩
abbrev cX11_copy : ByteArray := prog_13_method_11_code
def yX11_copy : MethodName := ⟨RX11, "copy", "([II[III)V"⟩
abbrev cX11_lowest : ByteArray := prog_13_method_12_code
def yX11_lowest : MethodName := ⟨RX11, "lowest", "(JJZ)J"⟩
abbrev cX11_feed : ByteArray := prog_13_method_13_code
def yX11_feed : MethodName := ⟨RX11, "feed", "(IIIII)I"⟩
abbrev cX11_look : ByteArray := prog_13_method_14_code
def yX11_look : MethodName := ⟨RX11, "look", "(I)I"⟩
abbrev cX11_isSmall : ByteArray := prog_13_method_15_code
def yX11_isSmall : MethodName := ⟨RX11, "isSmall", "(I)Z"⟩
abbrev cX11_isDigit : ByteArray := prog_13_method_16_code
def yX11_isDigit : MethodName := ⟨RX11, "isDigit", "(I)Z"⟩
abbrev cX11_next : ByteArray := prog_13_method_17_code
def yX11_next : MethodName := ⟨RX11, "next", "()V"⟩
abbrev cX11_bad : ByteArray := prog_13_method_18_code
def yX11_bad : MethodName := ⟨RX11, "bad", "(II)V"⟩
abbrev cX11_isWord : ByteArray := prog_13_method_19_code
def yX11_isWord : MethodName := ⟨RX11, "isWord", "(Ljava/lang/String;)Z"⟩
abbrev cX11_takesWord : ByteArray := prog_13_method_20_code
def yX11_takesWord : MethodName := ⟨RX11, "takesWord", "(Ljava/lang/String;)Z"⟩
abbrev cX11_must : ByteArray := prog_13_method_21_code
def yX11_must : MethodName := ⟨RX11, "must", "(Ljava/lang/String;)V"⟩
abbrev cX11_mustName : ByteArray := prog_13_method_22_code
def yX11_mustName : MethodName := ⟨RX11, "mustName", "()V"⟩
abbrev cX11_find : ByteArray := prog_13_method_23_code
def yX11_find : MethodName := ⟨RX11, "find", "()I"⟩
abbrev cX11_newName : ByteArray := prog_13_method_24_code
def yX11_newName : MethodName := ⟨RX11, "newName", "(I)V"⟩
abbrev cX11_named : ByteArray := prog_13_method_25_code
def yX11_named : MethodName := ⟨RX11, "named", "(II)I"⟩
abbrev cX11_reelPassed : ByteArray := prog_13_method_26_code
def yX11_reelPassed : MethodName := ⟨RX11, "reelPassed", "()I"⟩
abbrev cX11_numberHere : ByteArray := prog_13_method_27_code
def yX11_numberHere : MethodName := ⟨RX11, "numberHere", "(II)I"⟩
abbrev cX11_number : ByteArray := prog_13_method_28_code
def yX11_number : MethodName := ⟨RX11, "number", "(II)I"⟩
abbrev cX11_after : ByteArray := prog_13_method_29_code
def yX11_after : MethodName := ⟨RX11, "after", "(Ljava/lang/String;II)I"⟩
abbrev cX11_comma : ByteArray := prog_13_method_30_code
def yX11_comma : MethodName := ⟨RX11, "comma", "()Z"⟩
abbrev cX11_house : ByteArray := prog_13_method_31_code
def yX11_house : MethodName := ⟨RX11, "house", "(I)I"⟩
abbrev cX11_opens : ByteArray := prog_13_method_32_code
def yX11_opens : MethodName := ⟨RX11, "opens", "(Ljava/lang/String;Z)Z"⟩
abbrev cX11_opensOnce : ByteArray := prog_13_method_33_code
def yX11_opensOnce : MethodName := ⟨RX11, "opensOnce", "(Ljava/lang/String;Z)Z"⟩
abbrev cX11_readLine : ByteArray := prog_13_method_34_code
def yX11_readLine : MethodName := ⟨RX11, "readLine", "()V"⟩
abbrev cX11_houseLine : ByteArray := prog_13_method_35_code
def yX11_houseLine : MethodName := ⟨RX11, "houseLine", "()V"⟩
abbrev cX11_reelLine : ByteArray := prog_13_method_36_code
def yX11_reelLine : MethodName := ⟨RX11, "reelLine", "()V"⟩
abbrev cX11_townLine : ByteArray := prog_13_method_37_code
def yX11_townLine : MethodName := ⟨RX11, "townLine", "()V"⟩
abbrev cX11_frameOf : ByteArray := prog_13_method_38_code
def yX11_frameOf : MethodName := ⟨RX11, "frameOf", "(I)I"⟩
abbrev cX11_markLine : ByteArray := prog_13_method_39_code
def yX11_markLine : MethodName := ⟨RX11, "markLine", "()V"⟩
abbrev cX11_joinLine : ByteArray := prog_13_method_40_code
def yX11_joinLine : MethodName := ⟨RX11, "joinLine", "()V"⟩
abbrev cX11_weakLine : ByteArray := prog_13_method_41_code
def yX11_weakLine : MethodName := ⟨RX11, "weakLine", "()V"⟩
abbrev cX11_manLine : ByteArray := prog_13_method_42_code
def yX11_manLine : MethodName := ⟨RX11, "manLine", "()V"⟩
abbrev cX11_showsLine : ByteArray := prog_13_method_43_code
def yX11_showsLine : MethodName := ⟨RX11, "showsLine", "()V"⟩
abbrev cX11_boysLine : ByteArray := prog_13_method_44_code
def yX11_boysLine : MethodName := ⟨RX11, "boysLine", "()V"⟩
abbrev cX11_seenLine : ByteArray := prog_13_method_45_code
def yX11_seenLine : MethodName := ⟨RX11, "seenLine", "()V"⟩
abbrev cX11_scratchLine : ByteArray := prog_13_method_46_code
def yX11_scratchLine : MethodName := ⟨RX11, "scratchLine", "()V"⟩
abbrev cX11_fault : ByteArray := prog_13_method_47_code
def yX11_fault : MethodName := ⟨RX11, "fault", "()I"⟩
abbrev cX11_where : ByteArray := prog_13_method_48_code
def yX11_where : MethodName := ⟨RX11, "where", "()I"⟩
abbrev cX11_isReel : ByteArray := prog_13_method_49_code
def yX11_isReel : MethodName := ⟨RX11, "isReel", "(I)Z"⟩
abbrev cX11_isPlace : ByteArray := prog_13_method_50_code
def yX11_isPlace : MethodName := ⟨RX11, "isPlace", "(I)Z"⟩
abbrev cX11_isMan : ByteArray := prog_13_method_51_code
def yX11_isMan : MethodName := ⟨RX11, "isMan", "(I)Z"⟩
abbrev cX11_isWeak : ByteArray := prog_13_method_52_code
def yX11_isWeak : MethodName := ⟨RX11, "isWeak", "(I)Z"⟩
abbrev cX11_isMended : ByteArray := prog_13_method_53_code
def yX11_isMended : MethodName := ⟨RX11, "isMended", "(I)Z"⟩
abbrev cX11_reelAt : ByteArray := prog_13_method_54_code
def yX11_reelAt : MethodName := ⟨RX11, "reelAt", "(I)I"⟩
abbrev cX11_framesAt : ByteArray := prog_13_method_55_code
def yX11_framesAt : MethodName := ⟨RX11, "framesAt", "(I)I"⟩
abbrev cX11_reel : ByteArray := prog_13_method_56_code
def yX11_reel : MethodName := ⟨RX11, "reel", "(II)I"⟩
abbrev cX11_marksOf : ByteArray := prog_13_method_57_code
def yX11_marksOf : MethodName := ⟨RX11, "marksOf", "(I)I"⟩
abbrev cX11_joinsOf : ByteArray := prog_13_method_58_code
def yX11_joinsOf : MethodName := ⟨RX11, "joinsOf", "(I)I"⟩
abbrev cX11_weaksOf : ByteArray := prog_13_method_59_code
def yX11_weaksOf : MethodName := ⟨RX11, "weaksOf", "(I)I"⟩
abbrev cX11_markOf : ByteArray := prog_13_method_60_code
def yX11_markOf : MethodName := ⟨RX11, "markOf", "(II)I"⟩
abbrev cX11_mark : ByteArray := prog_13_method_61_code
def yX11_mark : MethodName := ⟨RX11, "mark", "(II)I"⟩
abbrev cX11_shows : ByteArray := prog_13_method_62_code
def yX11_shows : MethodName := ⟨RX11, "shows", "(I)I"⟩
abbrev cX11_thread : ByteArray := prog_13_method_63_code
def yX11_thread : MethodName := ⟨RX11, "thread", "(I)I"⟩
abbrev cX11_believesOf : ByteArray := prog_13_method_64_code
def yX11_believesOf : MethodName := ⟨RX11, "believesOf", "(II)I"⟩
abbrev cX11_isGone : ByteArray := prog_13_method_65_code
def yX11_isGone : MethodName := ⟨RX11, "isGone", "(I)Z"⟩
abbrev cX11_layNight : ByteArray := prog_13_method_66_code
def yX11_layNight : MethodName := ⟨RX11, "layNight", "(I)V"⟩
abbrev cX11_follows : ByteArray := prog_13_method_67_code
def yX11_follows : MethodName := ⟨RX11, "follows", "(IIIIZ)V"⟩
abbrev cX11_layTold : ByteArray := prog_13_method_68_code
def yX11_layTold : MethodName := ⟨RX11, "layTold", "(I)V"⟩
abbrev cX11_tailOf : ByteArray := prog_13_method_69_code
def yX11_tailOf : MethodName := ⟨RX11, "tailOf", "(I)I"⟩
abbrev cX11_canTell : ByteArray := prog_13_method_70_code
def yX11_canTell : MethodName := ⟨RX11, "canTell", "(II)Z"⟩
abbrev cX11_believes : ByteArray := prog_13_method_71_code
def yX11_believes : MethodName := ⟨RX11, "believes", "(II)I"⟩
abbrev cX11_starts : ByteArray := prog_13_method_72_code
def yX11_starts : MethodName := ⟨RX11, "starts", "(II)I"⟩
abbrev cX11_changes : ByteArray := prog_13_method_73_code
def yX11_changes : MethodName := ⟨RX11, "changes", "(II)I"⟩
abbrev cX11_lost : ByteArray := prog_13_method_74_code
def yX11_lost : MethodName := ⟨RX11, "lost", "(II)I"⟩
abbrev cX11_black : ByteArray := prog_13_method_75_code
def yX11_black : MethodName := ⟨RX11, "black", "(II)I"⟩
abbrev cX11_tail : ByteArray := prog_13_method_76_code
def yX11_tail : MethodName := ⟨RX11, "tail", "(II)I"⟩
abbrev cX11_begins : ByteArray := prog_13_method_77_code
def yX11_begins : MethodName := ⟨RX11, "begins", "(II)I"⟩
abbrev cX11_length : ByteArray := prog_13_method_78_code
def yX11_length : MethodName := ⟨RX11, "length", "(I)I"⟩
abbrev cX11_sumOf : ByteArray := prog_13_method_79_code
def yX11_sumOf : MethodName := ⟨RX11, "sumOf", "(I)I"⟩
abbrev cX11_all : ByteArray := prog_13_method_80_code
def yX11_all : MethodName := ⟨RX11, "all", "(II)I"⟩
abbrev cX11_worst : ByteArray := prog_13_method_81_code
def yX11_worst : MethodName := ⟨RX11, "worst", "(I)I"⟩
abbrev cX11_exact : ByteArray := prog_13_method_82_code
def yX11_exact : MethodName := ⟨RX11, "exact", "(II)I"⟩
abbrev cX11_needsOf : ByteArray := prog_13_method_83_code
def yX11_needsOf : MethodName := ⟨RX11, "needsOf", "(I)I"⟩
abbrev cX11_freeOf : ByteArray := prog_13_method_84_code
def yX11_freeOf : MethodName := ⟨RX11, "freeOf", "(I)I"⟩
abbrev cX11_burn : ByteArray := prog_13_method_85_code
def yX11_burn : MethodName := ⟨RX11, "burn", "(I)Z"⟩
abbrev cX11_needs : ByteArray := prog_13_method_86_code
def yX11_needs : MethodName := ⟨RX11, "needs", "(II)I"⟩
abbrev cX11_dies : ByteArray := prog_13_method_87_code
def yX11_dies : MethodName := ⟨RX11, "dies", "(II)I"⟩
abbrev cX11_firstDies : ByteArray := prog_13_method_88_code
def yX11_firstDies : MethodName := ⟨RX11, "firstDies", "(I)I"⟩
abbrev cX11_arc : ByteArray := prog_13_method_89_code
def yX11_arc : MethodName := ⟨RX11, "arc", "(II)I"⟩
abbrev cX11_free : ByteArray := prog_13_method_90_code
def yX11_free : MethodName := ⟨RX11, "free", "(II)I"⟩
abbrev cX11_never : ByteArray := prog_13_method_91_code
def yX11_never : MethodName := ⟨RX11, "never", "(I)I"⟩
abbrev cX11_isDot : ByteArray := prog_13_method_92_code
def yX11_isDot : MethodName := ⟨RX11, "isDot", "(II)Z"⟩
abbrev cX11_weightOf : ByteArray := prog_13_method_93_code
def yX11_weightOf : MethodName := ⟨RX11, "weightOf", "(II)J"⟩
abbrev cX11_allWeights : ByteArray := prog_13_method_94_code
def yX11_allWeights : MethodName := ⟨RX11, "allWeights", "(I)J"⟩
abbrev cX11_truly : ByteArray := prog_13_method_95_code
def yX11_truly : MethodName := ⟨RX11, "truly", "(IIZ)J"⟩
abbrev cX11_likeliest : ByteArray := prog_13_method_96_code
def yX11_likeliest : MethodName := ⟨RX11, "likeliest", "(I)I"⟩
abbrev cX11_missing : ByteArray := prog_13_method_97_code
def yX11_missing : MethodName := ⟨RX11, "missing", "(IZ)I"⟩
abbrev cX11_words : ByteArray := prog_13_method_98_code
def yX11_words : MethodName := ⟨RX11, "words", "(I)I"⟩
abbrev cX11_power : ByteArray := prog_13_method_99_code
def yX11_power : MethodName := ⟨RX11, "power", "(II)J"⟩
abbrev cX11_holds : ByteArray := prog_13_method_100_code
def yX11_holds : MethodName := ⟨RX11, "holds", "(IIZ)J"⟩
abbrev cX11_pays : ByteArray := prog_13_method_101_code
def yX11_pays : MethodName := ⟨RX11, "pays", "(II)I"⟩
abbrev cX11_wears : ByteArray := prog_13_method_102_code
def yX11_wears : MethodName := ⟨RX11, "wears", "(IIZ)J"⟩
abbrev cX11_signsOf : ByteArray := prog_13_method_103_code
def yX11_signsOf : MethodName := ⟨RX11, "signsOf", "(I)I"⟩
abbrev cX11_signs : ByteArray := prog_13_method_104_code
def yX11_signs : MethodName := ⟨RX11, "signs", "(I)I"⟩
abbrev cX11_fits : ByteArray := prog_13_method_105_code
def yX11_fits : MethodName := ⟨RX11, "fits", "()I"⟩
abbrev cX11_bestSlipOf : ByteArray := prog_13_method_106_code
def yX11_bestSlipOf : MethodName := ⟨RX11, "bestSlipOf", "(I)I"⟩
abbrev cX11_bestSlip : ByteArray := prog_13_method_107_code
def yX11_bestSlip : MethodName := ⟨RX11, "bestSlip", "(I)I"⟩
abbrev cX11_bySlip : ByteArray := prog_13_method_108_code
def yX11_bySlip : MethodName := ⟨RX11, "bySlip", "(I)I"⟩
abbrev cX11_farOf : ByteArray := prog_13_method_109_code
def yX11_farOf : MethodName := ⟨RX11, "farOf", "(II)I"⟩
abbrev cX11_layScratch : ByteArray := prog_13_method_110_code
def yX11_layScratch : MethodName := ⟨RX11, "layScratch", "(I)Z"⟩
abbrev cX11_who : ByteArray := prog_13_method_111_code
def yX11_who : MethodName := ⟨RX11, "who", "(I)I"⟩
abbrev cX11_far : ByteArray := prog_13_method_112_code
def yX11_far : MethodName := ⟨RX11, "far", "(I)I"⟩
abbrev cX11_carry : ByteArray := prog_13_method_113_code
def yX11_carry : MethodName := ⟨RX11, "carry", "(II)V"⟩
abbrev cX11_apartOf : ByteArray := prog_13_method_114_code
def yX11_apartOf : MethodName := ⟨RX11, "apartOf", "(II)I"⟩
abbrev cX11_boyWhy : ByteArray := prog_13_method_115_code
def yX11_boyWhy : MethodName := ⟨RX11, "boyWhy", "(I)I"⟩
abbrev cX11_apart : ByteArray := prog_13_method_116_code
def yX11_apart : MethodName := ⟨RX11, "apart", "(II)I"⟩
abbrev cX11_boys : ByteArray := prog_13_method_117_code
def yX11_boys : MethodName := ⟨RX11, "boys", "(I)I"⟩
abbrev cX11_waits : ByteArray := prog_13_method_118_code
def yX11_waits : MethodName := ⟨RX11, "waits", "(III)I"⟩
abbrev cX11_well : ByteArray := prog_13_method_119_code
def yX11_well : MethodName := ⟨RX11, "well", "(Z)J"⟩
abbrev cX11_wrong : ByteArray := prog_13_method_120_code
def yX11_wrong : MethodName := ⟨RX11, "wrong", "()I"⟩
abbrev cX11_laySorted : ByteArray := prog_13_method_121_code
def yX11_laySorted : MethodName := ⟨RX11, "laySorted", "()V"⟩
abbrev cX11_isEven : ByteArray := prog_13_method_122_code
def yX11_isEven : MethodName := ⟨RX11, "isEven", "(I)Z"⟩
abbrev cX11_exchanges : ByteArray := prog_13_method_123_code
def yX11_exchanges : MethodName := ⟨RX11, "exchanges", "()I"⟩
abbrev cX11_drawn : ByteArray := prog_13_method_124_code
def yX11_drawn : MethodName := ⟨RX11, "drawn", "()I"⟩
abbrev cX11_drawNight : ByteArray := prog_13_method_125_code
def yX11_drawNight : MethodName := ⟨RX11, "drawNight", "(I)V"⟩
abbrev cX11_dark : ByteArray := prog_13_method_126_code
def yX11_dark : MethodName := ⟨RX11, "dark", "(II)I"⟩
abbrev cX11_bestMan : ByteArray := prog_13_method_127_code
def yX11_bestMan : MethodName := ⟨RX11, "bestMan", "(II)I"⟩
abbrev cX11_note : ByteArray := prog_13_method_128_code
def yX11_note : MethodName := ⟨RX11, "note", "()V"⟩
abbrev cX11_threads : ByteArray := prog_13_method_129_code
def yX11_threads : MethodName := ⟨RX11, "threads", "(II)Z"⟩
abbrev cX11_trim : ByteArray := prog_13_method_130_code
def yX11_trim : MethodName := ⟨RX11, "trim", "(IZ)Z"⟩
abbrev cX11_shifted : ByteArray := prog_13_method_131_code
def yX11_shifted : MethodName := ⟨RX11, "shifted", "(III)I"⟩
abbrev cX11_mend : ByteArray := prog_13_method_132_code
def yX11_mend : MethodName := ⟨RX11, "mend", "(I)I"⟩
abbrev cX11_undo : ByteArray := prog_13_method_133_code
def yX11_undo : MethodName := ⟨RX11, "undo", "()Z"⟩
abbrev cX11_image : ByteArray := prog_13_method_134_code
def yX11_image : MethodName := ⟨RX11, "image", "()I"⟩
abbrev cX11_back : ByteArray := prog_13_method_135_code
def yX11_back : MethodName := ⟨RX11, "back", "(I)Z"⟩
abbrev cX11_led : ByteArray := prog_13_method_136_code
def yX11_led : MethodName := ⟨RX11, "led", "(I)I"⟩
abbrev cX11_size : ByteArray := prog_13_method_137_code
def yX11_size : MethodName := ⟨RX11, "size", "(I)I"⟩
abbrev cX11_trouble : ByteArray := prog_13_method_138_code
def yX11_trouble : MethodName := ⟨RX11, "trouble", "()I"⟩
def RJx145de : String := "java/io/Serializable"
def TJx145de : u_T := fun k => match k with
  | _ => ("", "", "", false)
def tyJx145de : Nat → FieldType := fun k => match k with
  | _ => .int
abbrev wsJx145de0 : List Cond := u_ws RJx145de TJx145de 0
theorem nmJx145de : ∀ a, a < 0 → ∀ b, b < 0 → a ≠ b → (TJx145de a).2.1 ≠ (TJx145de b).2.1 := by decide +kernel
theorem tyJx145de_ok : ∀ k, k < 0 → parseFieldDescriptor (TJx145de k).2.2.1 = some (tyJx145de k) := by decide +kernel
def RJx9f9b0 : String := "java/lang/CharSequence"
def TJx9f9b0 : u_T := fun k => match k with
  | _ => ("", "", "", false)
def tyJx9f9b0 : Nat → FieldType := fun k => match k with
  | _ => .int
abbrev wsJx9f9b00 : List Cond := u_ws RJx9f9b0 TJx9f9b0 0
theorem nmJx9f9b0 : ∀ a, a < 0 → ∀ b, b < 0 → a ≠ b → (TJx9f9b0 a).2.1 ≠ (TJx9f9b0 b).2.1 := by decide +kernel
theorem tyJx9f9b0_ok : ∀ k, k < 0 → parseFieldDescriptor (TJx9f9b0 k).2.2.1 = some (tyJx9f9b0 k) := by decide +kernel
def RJxb160c : String := "java/lang/Comparable"
def TJxb160c : u_T := fun k => match k with
  | _ => ("", "", "", false)
def tyJxb160c : Nat → FieldType := fun k => match k with
  | _ => .int
abbrev wsJxb160c0 : List Cond := u_ws RJxb160c TJxb160c 0
theorem nmJxb160c : ∀ a, a < 0 → ∀ b, b < 0 → a ≠ b → (TJxb160c a).2.1 ≠ (TJxb160c b).2.1 := by decide +kernel
theorem tyJxb160c_ok : ∀ k, k < 0 → parseFieldDescriptor (TJxb160c k).2.2.1 = some (tyJxb160c k) := by decide +kernel
def RJ6 : String := "java/lang/Integer"
def TJ6 : u_T := fun k => match k with
  | _ => ("", "", "", false)
def tyJ6 : Nat → FieldType := fun k => match k with
  | _ => .int
abbrev wsJ60 : List Cond := u_ws RJ6 TJ6 0
theorem nmJ6 : ∀ a, a < 0 → ∀ b, b < 0 → a ≠ b → (TJ6 a).2.1 ≠ (TJ6 b).2.1 := by decide +kernel
theorem tyJ6_ok : ∀ k, k < 0 → parseFieldDescriptor (TJ6 k).2.2.1 = some (tyJ6 k) := by decide +kernel
abbrev cJ6_bitCount_0f7a4 : ByteArray := prog_18_method_49_code
def yJ6_bitCount_0f7a4 : MethodName := ⟨RJ6, "bitCount", "(I)I"⟩
def RJ9 : String := "java/lang/Math"
def TJ9 : u_T := fun k => match k with
  | _ => ("", "", "", false)
def tyJ9 : Nat → FieldType := fun k => match k with
  | _ => .int
abbrev wsJ90 : List Cond := u_ws RJ9 TJ9 0
theorem nmJ9 : ∀ a, a < 0 → ∀ b, b < 0 → a ≠ b → (TJ9 a).2.1 ≠ (TJ9 b).2.1 := by decide +kernel
theorem tyJ9_ok : ∀ k, k < 0 → parseFieldDescriptor (TJ9 k).2.2.1 = some (tyJ9 k) := by decide +kernel
abbrev cJ9_abs_0f7a4 : ByteArray := prog_19_method_59_code
def yJ9_abs_0f7a4 : MethodName := ⟨RJ9, "abs", "(I)I"⟩
abbrev cJ9_max_7cf53 : ByteArray := prog_19_method_65_code
def yJ9_max_7cf53 : MethodName := ⟨RJ9, "max", "(II)I"⟩
abbrev cJ9_min_7cf53 : ByteArray := prog_19_method_69_code
def yJ9_min_7cf53 : MethodName := ⟨RJ9, "min", "(II)I"⟩
def RJ0 : String := "java/lang/String"
def TJ0 : u_T := fun k => match k with
  | _ => ("", "", "", false)
def tyJ0 : Nat → FieldType := fun k => match k with
  | _ => .int
abbrev wsJ00 : List Cond := u_ws RJ0 TJ0 0
theorem nmJ0 : ∀ a, a < 0 → ∀ b, b < 0 → a ≠ b → (TJ0 a).2.1 ≠ (TJ0 b).2.1 := by decide +kernel
theorem tyJ0_ok : ∀ k, k < 0 → parseFieldDescriptor (TJ0 k).2.2.1 = some (tyJ0 k) := by decide +kernel
abbrev cJ0_length_8abf5 : ByteArray := prog_21_method_54_code
def yJ0_length_8abf5 : MethodName := ⟨RJ0, "length", "()I"⟩
abbrev cJ0_charAt_5068e : ByteArray := prog_21_method_56_code
def yJ0_charAt_5068e : MethodName := ⟨RJ0, "charAt", "(I)C"⟩
abbrev cJ0_coder_7d493 : ByteArray := prog_21_method_152_code
def yJ0_coder_7d493 : MethodName := ⟨RJ0, "coder", "()B"⟩
abbrev cJ0_isLatin1_aae02 : ByteArray := prog_21_method_154_code
def yJ0_isLatin1_aae02 : MethodName := ⟨RJ0, "isLatin1", "()Z"⟩
abbrev cJ0_checkIndex_df160 : ByteArray := prog_21_method_155_code
def yJ0_checkIndex_df160 : MethodName := ⟨RJ0, "checkIndex", "(II)V"⟩
def RJ1 : String := "java/lang/StringLatin1"
def TJ1 : u_T := fun k => match k with
  | _ => ("", "", "", false)
def tyJ1 : Nat → FieldType := fun k => match k with
  | _ => .int
abbrev wsJ10 : List Cond := u_ws RJ1 TJ1 0
theorem nmJ1 : ∀ a, a < 0 → ∀ b, b < 0 → a ≠ b → (TJ1 a).2.1 ≠ (TJ1 b).2.1 := by decide +kernel
theorem tyJ1_ok : ∀ k, k < 0 → parseFieldDescriptor (TJ1 k).2.2.1 = some (tyJ1 k) := by decide +kernel
abbrev cJ1_charAt_3b067 : ByteArray := prog_22_method_2_code
def yJ1_charAt_3b067 : MethodName := ⟨RJ1, "charAt", "([BI)C"⟩
def RJ2 : String := "java/lang/StringUTF16"
def TJ2 : u_T := fun k => match k with
  | _ => ("", "", "", false)
def tyJ2 : Nat → FieldType := fun k => match k with
  | _ => .int
abbrev wsJ20 : List Cond := u_ws RJ2 TJ2 0
theorem nmJ2 : ∀ a, a < 0 → ∀ b, b < 0 → a ≠ b → (TJ2 a).2.1 ≠ (TJ2 b).2.1 := by decide +kernel
theorem tyJ2_ok : ∀ k, k < 0 → parseFieldDescriptor (TJ2 k).2.2.1 = some (tyJ2 k) := by decide +kernel
abbrev cJ2_getChar_3b067 : ByteArray := prog_23_method_5_code
def yJ2_getChar_3b067 : MethodName := ⟨RJ2, "getChar", "([BI)C"⟩
abbrev cJ2_length_9d52b : ByteArray := prog_23_method_6_code
def yJ2_length_9d52b : MethodName := ⟨RJ2, "length", "([B)I"⟩
abbrev cJ2_charAt_3b067 : ByteArray := prog_23_method_83_code
def yJ2_charAt_3b067 : MethodName := ⟨RJ2, "charAt", "([BI)C"⟩
abbrev cJ2_checkIndex_2214a : ByteArray := prog_23_method_91_code
def yJ2_checkIndex_2214a : MethodName := ⟨RJ2, "checkIndex", "(I[B)V"⟩
def RJ10 : String := "java/lang/System"
def TJ10 : u_T := fun k => match k with
  | _ => ("", "", "", false)
def tyJ10 : Nat → FieldType := fun k => match k with
  | _ => .int
abbrev wsJ100 : List Cond := u_ws RJ10 TJ10 0
theorem nmJ10 : ∀ a, a < 0 → ∀ b, b < 0 → a ≠ b → (TJ10 a).2.1 ≠ (TJ10 b).2.1 := by decide +kernel
theorem tyJ10_ok : ∀ k, k < 0 → parseFieldDescriptor (TJ10 k).2.2.1 = some (tyJ10 k) := by decide +kernel
def RJxfd54e : String := "java/lang/constant/Constable"
def TJxfd54e : u_T := fun k => match k with
  | _ => ("", "", "", false)
def tyJxfd54e : Nat → FieldType := fun k => match k with
  | _ => .int
abbrev wsJxfd54e0 : List Cond := u_ws RJxfd54e TJxfd54e 0
theorem nmJxfd54e : ∀ a, a < 0 → ∀ b, b < 0 → a ≠ b → (TJxfd54e a).2.1 ≠ (TJxfd54e b).2.1 := by decide +kernel
theorem tyJxfd54e_ok : ∀ k, k < 0 → parseFieldDescriptor (TJxfd54e k).2.2.1 = some (tyJxfd54e k) := by decide +kernel
def RJx3cf43 : String := "java/lang/constant/ConstantDesc"
def TJx3cf43 : u_T := fun k => match k with
  | _ => ("", "", "", false)
def tyJx3cf43 : Nat → FieldType := fun k => match k with
  | _ => .int
abbrev wsJx3cf430 : List Cond := u_ws RJx3cf43 TJx3cf43 0
theorem nmJx3cf43 : ∀ a, a < 0 → ∀ b, b < 0 → a ≠ b → (TJx3cf43 a).2.1 ≠ (TJx3cf43 b).2.1 := by decide +kernel
theorem tyJx3cf43_ok : ∀ k, k < 0 → parseFieldDescriptor (TJx3cf43 k).2.2.1 = some (tyJx3cf43 k) := by decide +kernel
def RJ3 : String := "jdk/internal/util/Preconditions"
def TJ3 : u_T := fun k => match k with
  | _ => ("", "", "", false)
def tyJ3 : Nat → FieldType := fun k => match k with
  | _ => .int
abbrev wsJ30 : List Cond := u_ws RJ3 TJ3 0
theorem nmJ3 : ∀ a, a < 0 → ∀ b, b < 0 → a ≠ b → (TJ3 a).2.1 ≠ (TJ3 b).2.1 := by decide +kernel
theorem tyJ3_ok : ∀ k, k < 0 → parseFieldDescriptor (TJ3 k).2.2.1 = some (tyJ3 k) := by decide +kernel
abbrev cJ3_checkIndex_8e157 : ByteArray := prog_29_method_11_code
def yJ3_checkIndex_8e157 : MethodName := ⟨RJ3, "checkIndex", "(IILjava/util/function/BiFunction;)I"⟩
def RL : String := "ReelChangeLaw"
abbrev cL_led : ByteArray := method_3_code
def yL_led : MethodName := ⟨RL, "led", "(LReelChange;I[J)I"⟩
abbrev cL_law : ByteArray := code
def yL_law : MethodName := ⟨RL, "law", "([I)Z"⟩
def wsL_law0_r1 : List Cond := [Cond.classLink RL 8 RX10, Cond.instantiable RX10 10, Cond.initialized RX10, Cond.classLink RL 16 RX11, Cond.instantiable RX11 43, Cond.initialized RX11, Cond.arrayClass .long, Cond.methodLink RL 15 yX10_init, Cond.instanceMethod yX10_init, Cond.code yX10_init cX10_init 1 none, Cond.methodLink RX10 1 objectInit, Cond.instanceMethod objectInit, Cond.code objectInit ⟨#[0xb1]⟩ 1 none, Cond.classLink RX10 7 RX9, Cond.instantiable RX9 15, Cond.initialized RX9, Cond.fieldLink RX10 10 "ReelChange" "text" "LReelChange$Text;", Cond.classLink RX10 16 RX3, Cond.instantiable RX3 8, Cond.initialized RX3, Cond.fieldLink RX10 19 "ReelChange" "told" "LReelChange$House;", Cond.classLink RX10 23 RX7, Cond.instantiable RX7 6, Cond.initialized RX7]
def wsL_law0_r2 : List Cond := [Cond.fieldLink RX10 26 "ReelChange" "now" "LReelChange$State;", Cond.classLink RX10 30 RX4, Cond.instantiable RX4 5, Cond.initialized RX4, Cond.fieldLink RX10 33 "ReelChange" "kept" "LReelChange$Kept;", Cond.classLink RX10 37 RX5, Cond.instantiable RX5 9, Cond.initialized RX5, Cond.fieldLink RX10 40 "ReelChange" "night" "LReelChange$Night;", Cond.classLink RX10 44 RX0, Cond.instantiable RX0 2, Cond.initialized RX0, Cond.fieldLink RX10 47 "ReelChange" "arcs" "LReelChange$Arcs;", Cond.classLink RX10 51 RX6, Cond.instantiable RX6 3, Cond.initialized RX6, Cond.fieldLink RX10 54 "ReelChange" "riders" "LReelChange$Riders;", Cond.classLink RX10 58 RX1, Cond.instantiable RX1 3, Cond.initialized RX1, Cond.fieldLink RX10 61 "ReelChange" "exchanger" "LReelChange$Exchanger;", Cond.classLink RX10 65 RX2, Cond.instantiable RX2 2, Cond.initialized RX2]
def wsL_law0_r3 : List Cond := [Cond.fieldLink RX10 68 "ReelChange" "fraction" "LReelChange$Fraction;", Cond.fieldLink RX10 72 "ReelChange" "latestTrouble" "I", Cond.instanceMethod yX9_init, Cond.code yX9_init cX9_init 1 none, Cond.methodLink RX9 3 objectInit, Cond.fieldLink RX9 9 "ReelChange$Text" "taped" "I", Cond.classLink RX9 15 RX3, Cond.fieldLink RX9 18 "ReelChange$Text" "house" "LReelChange$House;", Cond.fieldLink RX9 22 "ReelChange$Text" "faultNumber" "I", Cond.fieldLink RX9 25 "ReelChange$Text" "faultPlace" "I", Cond.arrayClass .byte, Cond.fieldLink RX9 28 "ReelChange$Text" "tape" "[B", Cond.fieldLink RX9 32 "ReelChange$Text" "end" "I", Cond.fieldLink RX9 35 "ReelChange$Text" "names" "[J", Cond.classLink RX9 39 RX8, Cond.instantiable RX8 4, Cond.initialized RX8, Cond.fieldLink RX9 44 "ReelChange$Text" "named" "LReelChange$Table;", Cond.fieldLink RX9 48 "ReelChange$Text" "kind" "I", Cond.fieldLink RX9 51 "ReelChange$Text" "start" "I", Cond.fieldLink RX9 54 "ReelChange$Text" "position" "I", Cond.fieldLink RX9 57 "ReelChange$Text" "value" "I", Cond.fieldLink RX9 60 "ReelChange$Text" "letters" "J", Cond.fieldLink RX9 64 "ReelChange$Text" "taken" "I"]
def wsL_law0_r4 : List Cond := [Cond.fieldLink RX9 67 "ReelChange$Text" "takenAt" "I", Cond.instanceMethod yX3_init, Cond.code yX3_init cX3_init 1 none, Cond.methodLink RX3 1 objectInit, Cond.classLink RX3 7 RX7, Cond.fieldLink RX3 10 "ReelChange$House" "atFirst" "LReelChange$State;", Cond.classLink RX3 16 RX8, Cond.fieldLink RX3 21 "ReelChange$House" "numbers" "LReelChange$Table;", Cond.fieldLink RX3 25 "ReelChange$House" "towns" "LReelChange$Table;", Cond.fieldLink RX3 28 "ReelChange$House" "joins" "LReelChange$Table;", Cond.fieldLink RX3 31 "ReelChange$House" "men" "LReelChange$Table;", Cond.fieldLink RX3 34 "ReelChange$House" "boys" "LReelChange$Table;", Cond.fieldLink RX3 37 "ReelChange$House" "signs" "LReelChange$Table;", Cond.fieldLink RX3 40 "ReelChange$House" "scratches" "LReelChange$Table;", Cond.instanceMethod yX7_init, Cond.code yX7_init cX7_init 1 none, Cond.methodLink RX7 3 objectInit, Cond.classLink RX7 9 RX8, Cond.fieldLink RX7 14 "ReelChange$State" "reels" "LReelChange$Table;", Cond.fieldLink RX7 20 "ReelChange$State" "marks" "LReelChange$Table;", Cond.fieldLink RX7 23 "ReelChange$State" "weaks" "LReelChange$Table;", Cond.fieldLink RX7 26 "ReelChange$State" "places" "LReelChange$Table;", Cond.fieldLink RX7 29 "ReelChange$State" "mended" "I", Cond.fieldLink RX7 33 "ReelChange$State" "trims" "I"]
def wsL_law0_r5 : List Cond := [Cond.methodLink RX7 11 yX8_init, Cond.instanceMethod yX8_init, Cond.code yX8_init cX8_init 3 none, Cond.methodLink RX8 1 objectInit, Cond.fieldLink RX8 7 "ReelChange$Table" "count" "I", Cond.methodLink RX8 13 Lib.Math.max.name, Cond.static Lib.Math.max.name, Cond.initialized "java/lang/Math", Cond.code Lib.Math.max.name Lib.Math.max.code 2 (some .int), Cond.fieldLink RX8 19 "ReelChange$Table" "room" "I", Cond.fieldLink RX8 22 "ReelChange$Table" "width" "I", Cond.arrayClass .int, Cond.fieldLink RX8 25 "ReelChange$Table" "cells" "[I", Cond.methodLink RX3 18 yX8_init, Cond.methodLink RX9 41 yX8_init, Cond.methodLink RX10 32 yX4_init, Cond.instanceMethod yX4_init, Cond.code yX4_init cX4_init 2 none, Cond.methodLink RX4 3 objectInit, Cond.classLink RX4 11 RX7, Cond.fieldLink RX4 13 "ReelChange$Kept" "ahead" "[LReelChange$State;", Cond.fieldLink RX4 17 "ReelChange$Kept" "images" "[LReelChange$State;", Cond.fieldLink RX4 20 "ReelChange$Kept" "acts" "I", Cond.fieldLink RX4 24 "ReelChange$Kept" "next" "I"]
def wsL_law0_r6 : List Cond := [Cond.fieldLink RX4 27 "ReelChange$Kept" "imaged" "I", Cond.instanceMethod yX5_init, Cond.code yX5_init cX5_init 1 none, Cond.methodLink RX5 3 objectInit, Cond.classLink RX5 9 RX8, Cond.fieldLink RX5 14 "ReelChange$Night" "rows" "LReelChange$Table;", Cond.fieldLink RX5 20 "ReelChange$Night" "snapped" "I", Cond.fieldLink RX5 24 "ReelChange$Night" "mostSlip" "I", Cond.fieldLink RX5 27 "ReelChange$Night" "slip" "I", Cond.fieldLink RX5 30 "ReelChange$Night" "isDrawn" "Z", Cond.fieldLink RX5 34 "ReelChange$Night" "seed" "I", Cond.fieldLink RX5 37 "ReelChange$Night" "tick" "I", Cond.fieldLink RX5 40 "ReelChange$Night" "motorTick" "I", Cond.fieldLink RX5 43 "ReelChange$Night" "ahead" "I", Cond.methodLink RX5 11 yX8_init, Cond.instanceMethod yX0_init, Cond.code yX0_init cX0_init 1 none, Cond.methodLink RX0 3 objectInit, Cond.classLink RX0 9 RX8, Cond.fieldLink RX0 14 "ReelChange$Arcs" "left" "LReelChange$Table;", Cond.fieldLink RX0 20 "ReelChange$Arcs" "dying" "I", Cond.methodLink RX0 11 yX8_init, Cond.instanceMethod yX6_init, Cond.code yX6_init cX6_init 1 none]
def wsL_law0_r7 : List Cond := [Cond.methodLink RX6 3 objectInit, Cond.classLink RX6 9 RX8, Cond.fieldLink RX6 14 "ReelChange$Riders" "backAt" "LReelChange$Table;", Cond.fieldLink RX6 20 "ReelChange$Riders" "apartNeeded" "I", Cond.fieldLink RX6 24 "ReelChange$Riders" "waited" "I", Cond.methodLink RX6 11 yX8_init, Cond.instanceMethod yX1_init, Cond.code yX1_init cX1_init 1 none, Cond.methodLink RX1 3 objectInit, Cond.classLink RX1 9 RX8, Cond.fieldLink RX1 16 "ReelChange$Exchanger" "inOrder" "LReelChange$Table;", Cond.fieldLink RX1 20 "ReelChange$Exchanger" "parts" "LReelChange$Table;", Cond.fieldLink RX1 23 "ReelChange$Exchanger" "surplus" "[J", Cond.methodLink RX1 13 yX8_init, Cond.instanceMethod yX2_init, Cond.code yX2_init cX2_init 1 none, Cond.methodLink RX2 1 objectInit, Cond.fieldLink RX2 7 "ReelChange$Fraction" "upper" "J", Cond.fieldLink RX2 13 "ReelChange$Fraction" "lower" "J", Cond.methodLink RL 18 yX11_init, Cond.instanceMethod yX11_init, Cond.code yX11_init cX11_init 1 none, Cond.methodLink RX11 1 objectInit, Cond.fieldLink RX11 7 "ReelChangeModel" "tape" "[I"]
def wsL_law0_r8 : List Cond := [Cond.fieldLink RX11 13 "ReelChangeModel" "place" "I", Cond.fieldLink RX11 17 "ReelChangeModel" "letters" "[I", Cond.fieldLink RX11 20 "ReelChangeModel" "r" "[I", Cond.fieldLink RX11 23 "ReelChangeModel" "fresh" "[I", Cond.fieldLink RX11 26 "ReelChangeModel" "st" "[I", Cond.fieldLink RX11 29 "ReelChangeModel" "undone" "[I", Cond.fieldLink RX11 32 "ReelChangeModel" "kept" "[I", Cond.fieldLink RX11 35 "ReelChangeModel" "from" "[I", Cond.fieldLink RX11 38 "ReelChangeModel" "begin" "[I", Cond.fieldLink RX11 41 "ReelChangeModel" "motor" "[I", Cond.fieldLink RX11 44 "ReelChangeModel" "change" "[I", Cond.fieldLink RX11 47 "ReelChangeModel" "startFrame" "[I", Cond.fieldLink RX11 50 "ReelChangeModel" "changeFrame" "[I", Cond.fieldLink RX11 53 "ReelChangeModel" "lostAt" "[I", Cond.fieldLink RX11 56 "ReelChangeModel" "blackAt" "[I", Cond.fieldLink RX11 59 "ReelChangeModel" "slips" "[I", Cond.fieldLink RX11 62 "ReelChangeModel" "leftArc" "[I", Cond.fieldLink RX11 65 "ReelChangeModel" "died" "[I", Cond.fieldLink RX11 68 "ReelChangeModel" "arcs" "[I", Cond.fieldLink RX11 71 "ReelChangeModel" "there" "[I", Cond.fieldLink RX11 74 "ReelChangeModel" "backAt" "[I", Cond.fieldLink RX11 77 "ReelChangeModel" "sorted" "[I", Cond.fieldLink RX11 80 "ReelChangeModel" "parts" "[I", Cond.methodLink RL 19 yX10_feed]
def wsL_law0_r9 : List Cond := [Cond.instanceMethod yX10_feed, Cond.selects RX10 yX10_feed yX10_feed, Cond.code yX10_feed cX10_feed 6 (some .int), Cond.fieldLink RX10 76 "ReelChange$Text" "taped" "I", Cond.methodLink RX10 79 yX9_write, Cond.instanceMethod yX9_write, Cond.selects RX9 yX9_write yX9_write, Cond.code yX9_write cX9_write 3 none, Cond.methodLink RL 23 yX11_feed, Cond.instanceMethod yX11_feed, Cond.selects RX11 yX11_feed yX11_feed, Cond.code yX11_feed cX11_feed 8 (some .int), Cond.fieldLink RX11 83 "ReelChangeModel" "thrown" "I", Cond.fieldLink RX11 89 "ReelChangeModel" "taped" "I", Cond.methodLink RL 24 yX10_house, Cond.instanceMethod yX10_house, Cond.selects RX10 yX10_house yX10_house, Cond.code yX10_house cX10_house 2 (some .int), Cond.fieldLink RX10 90 "ReelChange$Text" "faultNumber" "I", Cond.fieldLink RX10 93 "ReelChange$Text" "house" "LReelChange$House;", Cond.fieldLink RX10 100 "ReelChange$House" "atFirst" "LReelChange$State;", Cond.fieldLink RX10 109 "ReelChange$State" "places" "LReelChange$Table;", Cond.fieldLink RX10 113 "ReelChange$Table" "count" "I", Cond.methodLink RX10 83 yX10_refuse]
def wsL_law0_r10 : List Cond := [Cond.instanceMethod yX10_refuse, Cond.selects RX10 yX10_refuse yX10_refuse, Cond.code yX10_refuse cX10_refuse 2 (some .int), Cond.methodLink RX10 87 yX9_read, Cond.instanceMethod yX9_read, Cond.selects RX9 yX9_read yX9_read, Cond.code yX9_read cX9_read 4 none, Cond.methodLink RX9 70 yX3_clear, Cond.instanceMethod yX3_clear, Cond.selects RX3 yX3_clear yX3_clear, Cond.code yX3_clear cX3_clear 1 none, Cond.methodLink RX3 47 yX7_clear, Cond.instanceMethod yX7_clear, Cond.selects RX7 yX7_clear yX7_clear, Cond.code yX7_clear cX7_clear 1 none, Cond.methodLink RX7 36 yX8_clear, Cond.instanceMethod yX8_clear, Cond.selects RX8 yX8_clear yX8_clear, Cond.code yX8_clear cX8_clear 1 none, Cond.methodLink RX3 50 yX8_clear, Cond.methodLink RX9 73 yX8_clear, Cond.methodLink RX9 74 yX9_next, Cond.instanceMethod yX9_next, Cond.selects RX9 yX9_next yX9_next]
def wsL_law0_r11 : List Cond := [Cond.code yX9_next cX9_next 1 none, Cond.constantLong RX9 301 (27), Cond.methodLink RX9 298 yX9_kindAt, Cond.instanceMethod yX9_kindAt, Cond.selects RX9 yX9_kindAt yX9_kindAt, Cond.code yX9_kindAt cX9_kindAt 3 (some .int), Cond.methodLink RX9 77 yX9_isLine, Cond.instanceMethod yX9_isLine, Cond.selects RX9 yX9_isLine yX9_isLine, Cond.code yX9_isLine cX9_isLine 1 (some .boolean), Cond.fieldLink RX9 116 "ReelChange$House" "numbers" "LReelChange$Table;", Cond.fieldLink RX9 97 "ReelChange$Table" "count" "I", Cond.methodLink RX9 104 yX9_is, Cond.instanceMethod yX9_is, Cond.selects RX9 yX9_is yX9_is, Cond.code yX9_is cX9_is 3 (some .boolean), Cond.methodLink RX9 289 yJ0_length_8abf5, Cond.instanceMethod yJ0_length_8abf5, Cond.selects RJ0 yJ0_length_8abf5 yJ0_length_8abf5, Cond.initialized RJ0, Cond.code yJ0_length_8abf5 cJ0_length_8abf5 1 (some .int), Cond.fieldLink RJ0 9 "java/lang/String" "value" "[B", Cond.methodLink RJ0 335 yJ0_coder_7d493, Cond.instanceMethod yJ0_coder_7d493]
def wsL_law0_r12 : List Cond := [Cond.selects RJ0 yJ0_coder_7d493 yJ0_coder_7d493, Cond.code yJ0_coder_7d493 cJ0_coder_7d493 1 (some .byte), Cond.fieldLink RJ0 38 "java/lang/String" "COMPACT_STRINGS" "Z", Cond.fieldLink RJ0 15 "java/lang/String" "coder" "B", Cond.methodLink RX9 294 yJ0_charAt_5068e, Cond.instanceMethod yJ0_charAt_5068e, Cond.selects RJ0 yJ0_charAt_5068e yJ0_charAt_5068e, Cond.code yJ0_charAt_5068e cJ0_charAt_5068e 2 (some .char), Cond.methodLink RJ0 492 yJ0_isLatin1_aae02, Cond.instanceMethod yJ0_isLatin1_aae02, Cond.selects RJ0 yJ0_isLatin1_aae02 yJ0_isLatin1_aae02, Cond.code yJ0_isLatin1_aae02 cJ0_isLatin1_aae02 1 (some .boolean), Cond.methodLink RJ0 495 yJ1_charAt_3b067, Cond.static yJ1_charAt_3b067, Cond.initialized RJ1, Cond.code yJ1_charAt_3b067 cJ1_charAt_3b067 2 (some .char), Cond.methodLink RJ1 9 yJ0_checkIndex_df160, Cond.static yJ0_checkIndex_df160, Cond.code yJ0_checkIndex_df160 cJ0_checkIndex_df160 2 none, Cond.fieldLink RJ0 1053 "jdk/internal/util/Preconditions" "SIOOBE_FORMATTER" "Ljava/util/function/BiFunction;", Cond.methodLink RJ0 1059 yJ3_checkIndex_8e157, Cond.static yJ3_checkIndex_8e157, Cond.initialized RJ3, Cond.code yJ3_checkIndex_8e157 cJ3_checkIndex_8e157 3 (some .int)]
def wsL_law0_r13 : List Cond := [Cond.methodLink RJ0 498 yJ2_charAt_3b067, Cond.static yJ2_charAt_3b067, Cond.initialized RJ2, Cond.code yJ2_charAt_3b067 cJ2_charAt_3b067 2 (some .char), Cond.methodLink RJ2 67 yJ2_checkIndex_2214a, Cond.static yJ2_checkIndex_2214a, Cond.code yJ2_checkIndex_2214a cJ2_checkIndex_2214a 2 none, Cond.methodLink RJ2 48 yJ2_length_9d52b, Cond.static yJ2_length_9d52b, Cond.code yJ2_length_9d52b cJ2_length_9d52b 1 (some .int), Cond.methodLink RJ2 414 yJ0_checkIndex_df160, Cond.methodLink RJ2 71 yJ2_getChar_3b067, Cond.static yJ2_getChar_3b067, Cond.code yJ2_getChar_3b067 cJ2_getChar_3b067 2 (some .char), Cond.fieldLink RJ2 44 "java/lang/StringUTF16" "$assertionsDisabled" "Z", Cond.fieldLink RJ2 59 "java/lang/StringUTF16" "HI_BYTE_SHIFT" "I", Cond.fieldLink RJ2 63 "java/lang/StringUTF16" "LO_BYTE_SHIFT" "I", Cond.methodLink RX9 108 yX9_isHouseLine, Cond.instanceMethod yX9_isHouseLine, Cond.selects RX9 yX9_isHouseLine yX9_isHouseLine, Cond.code yX9_isHouseLine cX9_isHouseLine 1 (some .boolean), Cond.methodLink RX9 84 yX9_refuseAt, Cond.instanceMethod yX9_refuseAt, Cond.selects RX9 yX9_refuseAt yX9_refuseAt]
def wsL_law0_r14 : List Cond := [Cond.code yX9_refuseAt cX9_refuseAt 3 (some .boolean), Cond.methodLink RX9 169 yX9_isNumber, Cond.instanceMethod yX9_isNumber, Cond.selects RX9 yX9_isNumber yX9_isNumber, Cond.code yX9_isNumber cX9_isNumber 5 (some .boolean), Cond.methodLink RX9 183 yX9_isLabel, Cond.instanceMethod yX9_isLabel, Cond.selects RX9 yX9_isLabel yX9_isLabel, Cond.code yX9_isLabel cX9_isLabel 2 (some .boolean), Cond.methodLink RX9 186 yX9_isWhole, Cond.instanceMethod yX9_isWhole, Cond.selects RX9 yX9_isWhole yX9_isWhole, Cond.code yX9_isWhole cX9_isWhole 3 (some .boolean), Cond.methodLink RX9 189 yX8_put, Cond.instanceMethod yX8_put, Cond.selects RX8 yX8_put yX8_put, Cond.code yX8_put cX8_put 4 none, Cond.methodLink RX9 113 yX9_isReserved, Cond.instanceMethod yX9_isReserved, Cond.selects RX9 yX9_isReserved yX9_isReserved, Cond.code yX9_isReserved cX9_isReserved 1 (some .boolean), Cond.methodLink RX9 121 yX9_isReelLine, Cond.instanceMethod yX9_isReelLine, Cond.selects RX9 yX9_isReelLine yX9_isReelLine]
def wsL_law0_r15 : List Cond := [Cond.code yX9_isReelLine cX9_isReelLine 4 (some .boolean), Cond.fieldLink RX9 88 "ReelChange$House" "atFirst" "LReelChange$State;", Cond.fieldLink RX9 193 "ReelChange$State" "reels" "LReelChange$Table;", Cond.methodLink RX9 196 yX9_hasRoom, Cond.instanceMethod yX9_hasRoom, Cond.selects RX9 yX9_hasRoom yX9_hasRoom, Cond.code yX9_hasRoom cX9_hasRoom 2 (some .boolean), Cond.methodLink RX9 262 yX8_isFull, Cond.instanceMethod yX8_isFull, Cond.selects RX8 yX8_isFull yX8_isFull, Cond.code yX8_isFull cX8_isFull 1 (some .boolean), Cond.methodLink RX9 200 yX9_isNewName, Cond.instanceMethod yX9_isNewName, Cond.selects RX9 yX9_isNewName yX9_isNewName, Cond.code yX9_isNewName cX9_isNewName 4 (some .boolean), Cond.methodLink RX9 284 yX9_findName, Cond.instanceMethod yX9_findName, Cond.selects RX9 yX9_findName yX9_findName, Cond.code yX9_findName cX9_findName 2 (some .int), Cond.methodLink RX9 209 yX8_add, Cond.instanceMethod yX8_add, Cond.selects RX8 yX8_add yX8_add, Cond.code yX8_add cX8_add 4 none, Cond.methodLink RX8 29 yX8_isFull]
def wsL_law0_r16 : List Cond := [Cond.methodLink RX8 33 yX8_put, Cond.methodLink RX9 126 yX9_isTownLine, Cond.instanceMethod yX9_isTownLine, Cond.selects RX9 yX9_isTownLine yX9_isTownLine, Cond.code yX9_isTownLine cX9_isTownLine 1 (some .boolean), Cond.fieldLink RX9 212 "ReelChange$House" "towns" "LReelChange$Table;", Cond.methodLink RX9 131 yX9_isMarkLine, Cond.instanceMethod yX9_isMarkLine, Cond.selects RX9 yX9_isMarkLine yX9_isMarkLine, Cond.code yX9_isMarkLine cX9_isMarkLine 4 (some .boolean), Cond.fieldLink RX9 217 "ReelChange$State" "marks" "LReelChange$Table;", Cond.methodLink RX9 220 yX9_isOldName, Cond.instanceMethod yX9_isOldName, Cond.selects RX9 yX9_isOldName yX9_isOldName, Cond.code yX9_isOldName cX9_isOldName 3 (some .boolean), Cond.methodLink RX9 240 yX8_at, Cond.instanceMethod yX8_at, Cond.selects RX8 yX8_at yX8_at, Cond.code yX8_at cX8_at 3 (some .int), Cond.methodLink RX9 224 yX9_lastFrame, Cond.instanceMethod yX9_lastFrame, Cond.selects RX9 yX9_lastFrame yX9_lastFrame, Cond.code yX9_lastFrame cX9_lastFrame 2 (some .int), Cond.methodLink RX9 228 yX7_markBy]
def wsL_law0_r17 : List Cond := [Cond.instanceMethod yX7_markBy, Cond.selects RX7 yX7_markBy yX7_markBy, Cond.code yX7_markBy cX7_markBy 4 (some .int), Cond.fieldLink RX7 51 "ReelChange$Table" "count" "I", Cond.methodLink RX7 43 yX8_at, Cond.methodLink RX9 136 yX9_isJoinLine, Cond.instanceMethod yX9_isJoinLine, Cond.selects RX9 yX9_isJoinLine yX9_isJoinLine, Cond.code yX9_isJoinLine cX9_isJoinLine 2 (some .boolean), Cond.fieldLink RX9 232 "ReelChange$House" "joins" "LReelChange$Table;", Cond.methodLink RX9 141 yX9_isWeakLine, Cond.instanceMethod yX9_isWeakLine, Cond.selects RX9 yX9_isWeakLine yX9_isWeakLine, Cond.code yX9_isWeakLine cX9_isWeakLine 5 (some .boolean), Cond.fieldLink RX9 237 "ReelChange$State" "weaks" "LReelChange$Table;", Cond.methodLink RX9 146 yX9_isManLine, Cond.instanceMethod yX9_isManLine, Cond.selects RX9 yX9_isManLine yX9_isManLine, Cond.code yX9_isManLine cX9_isManLine 3 (some .boolean), Cond.fieldLink RX9 100 "ReelChange$House" "men" "LReelChange$Table;", Cond.methodLink RX9 245 yX9_kindOfMan, Cond.instanceMethod yX9_kindOfMan, Cond.selects RX9 yX9_kindOfMan yX9_kindOfMan, Cond.code yX9_kindOfMan cX9_kindOfMan 1 (some .int)]
def wsL_law0_r18 : List Cond := [Cond.methodLink RX9 151 yX9_isShowsLine, Cond.instanceMethod yX9_isShowsLine, Cond.selects RX9 yX9_isShowsLine yX9_isShowsLine, Cond.code yX9_isShowsLine cX9_isShowsLine 4 (some .boolean), Cond.fieldLink RX9 92 "ReelChange$State" "places" "LReelChange$Table;", Cond.fieldLink RX9 259 "ReelChange$Table" "room" "I", Cond.methodLink RX9 265 yX3_number, Cond.instanceMethod yX3_number, Cond.selects RX3 yX3_number yX3_number, Cond.code yX3_number cX3_number 2 (some .int), Cond.methodLink RX3 43 yX8_at, Cond.methodLink RX9 156 yX9_isBoysLine, Cond.instanceMethod yX9_isBoysLine, Cond.selects RX9 yX9_isBoysLine yX9_isBoysLine, Cond.code yX9_isBoysLine cX9_isBoysLine 3 (some .boolean), Cond.fieldLink RX9 268 "ReelChange$House" "boys" "LReelChange$Table;", Cond.methodLink RX9 161 yX9_isSeenLine, Cond.instanceMethod yX9_isSeenLine, Cond.selects RX9 yX9_isSeenLine yX9_isSeenLine, Cond.code yX9_isSeenLine cX9_isSeenLine 4 (some .boolean), Cond.fieldLink RX9 274 "ReelChange$House" "signs" "LReelChange$Table;", Cond.methodLink RX9 164 yX9_isScratchLine, Cond.instanceMethod yX9_isScratchLine, Cond.selects RX9 yX9_isScratchLine yX9_isScratchLine]
def wsL_law0_r19 : List Cond := [Cond.code yX9_isScratchLine cX9_isScratchLine 2 (some .boolean), Cond.fieldLink RX9 281 "ReelChange$House" "scratches" "LReelChange$Table;", Cond.methodLink RX9 81 yX9_isFollowed, Cond.instanceMethod yX9_isFollowed, Cond.selects RX9 yX9_isFollowed yX9_isFollowed, Cond.code yX9_isFollowed cX9_isFollowed 1 (some .boolean), Cond.methodLink RX10 96 yX3_copyFrom, Cond.instanceMethod yX3_copyFrom, Cond.selects RX3 yX3_copyFrom yX3_copyFrom, Cond.code yX3_copyFrom cX3_copyFrom 2 none, Cond.methodLink RX3 51 yX7_copyFrom, Cond.instanceMethod yX7_copyFrom, Cond.selects RX7 yX7_copyFrom yX7_copyFrom, Cond.code yX7_copyFrom cX7_copyFrom 2 none, Cond.methodLink RX7 39 yX8_copyFrom, Cond.instanceMethod yX8_copyFrom, Cond.selects RX8 yX8_copyFrom yX8_copyFrom, Cond.code yX8_copyFrom cX8_copyFrom 2 none, Cond.methodLink RX8 40 arraycopyName, Cond.native arraycopyName, Cond.static arraycopyName, Cond.initialized "java/lang/System", Cond.methodLink RX3 55 yX8_copyFrom, Cond.methodLink RX10 103 yX7_copyFrom]
def wsL_law0_r20 : List Cond := [Cond.methodLink RX10 106 yX4_forget, Cond.instanceMethod yX4_forget, Cond.selects RX4 yX4_forget yX4_forget, Cond.code yX4_forget cX4_forget 1 none, Cond.methodLink RX10 118 yX10_tell, Cond.instanceMethod yX10_tell, Cond.selects RX10 yX10_tell yX10_tell, Cond.code yX10_tell cX10_tell 2 (some .int), Cond.methodLink RL 27 yX11_house, Cond.instanceMethod yX11_house, Cond.selects RX11 yX11_house yX11_house, Cond.code yX11_house cX11_house 3 (some .int), Cond.fieldLink RX11 125 "ReelChangeModel" "fault" "I", Cond.fieldLink RX11 121 "ReelChangeModel" "failed" "Z", Cond.fieldLink RX11 92 "ReelChangeModel" "size" "I", Cond.fieldLink RX11 95 "ReelChangeModel" "end" "I", Cond.fieldLink RX11 111 "ReelChangeModel" "token" "I", Cond.fieldLink RX11 102 "ReelChangeModel" "at" "I", Cond.fieldLink RX11 213 "ReelChangeModel" "hasHouse" "Z", Cond.fieldLink RX11 216 "ReelChangeModel" "undos" "I", Cond.fieldLink RX11 219 "ReelChangeModel" "images" "I", Cond.methodLink RX11 200 yX11_good, Cond.instanceMethod yX11_good, Cond.selects RX11 yX11_good yX11_good]
def wsL_law0_r21 : List Cond := [Cond.code yX11_good cX11_good 1 none, Cond.fieldLink RX11 86 "ReelChangeModel" "trouble" "I", Cond.methodLink RX11 182 yX11_in, Cond.static yX11_in, Cond.code yX11_in cX11_in 3 (some .boolean), Cond.methodLink RX11 203 yX11_no, Cond.instanceMethod yX11_no, Cond.selects RX11 yX11_no yX11_no, Cond.code yX11_no cX11_no 2 (some .int), Cond.methodLink RX11 142 yX11_next, Cond.instanceMethod yX11_next, Cond.selects RX11 yX11_next yX11_next, Cond.code yX11_next cX11_next 4 none, Cond.fieldLink RX11 105 "ReelChangeModel" "nameSize" "I", Cond.fieldLink RX11 108 "ReelChangeModel" "whole" "I", Cond.methodLink RX11 98 yX11_look, Cond.instanceMethod yX11_look, Cond.selects RX11 yX11_look yX11_look, Cond.code yX11_look cX11_look 2 (some .int), Cond.methodLink RX11 114 yX11_isSmall, Cond.static yX11_isSmall, Cond.code yX11_isSmall cX11_isSmall 1 (some .boolean), Cond.methodLink RX11 118 yX11_isDigit, Cond.static yX11_isDigit]
def wsL_law0_r22 : List Cond := [Cond.code yX11_isDigit cX11_isDigit 1 (some .boolean), Cond.methodLink RX11 206 yX11_readLine, Cond.instanceMethod yX11_readLine, Cond.selects RX11 yX11_readLine yX11_readLine, Cond.code yX11_readLine cX11_readLine 1 none, Cond.methodLink RX11 138 yX11_isWord, Cond.instanceMethod yX11_isWord, Cond.selects RX11 yX11_isWord yX11_isWord, Cond.code yX11_isWord cX11_isWord 4 (some .boolean), Cond.methodLink RX11 128 yJ0_length_8abf5, Cond.methodLink RX11 134 yJ0_charAt_5068e, Cond.methodLink RX11 222 yX11_houseLine, Cond.instanceMethod yX11_houseLine, Cond.selects RX11 yX11_houseLine yX11_houseLine, Cond.code yX11_houseLine cX11_houseLine 1 none, Cond.methodLink RX11 148 yX11_bad, Cond.instanceMethod yX11_bad, Cond.selects RX11 yX11_bad yX11_bad, Cond.code yX11_bad cX11_bad 3 none, Cond.methodLink RX11 264 yX11_after, Cond.instanceMethod yX11_after, Cond.selects RX11 yX11_after yX11_after, Cond.code yX11_after cX11_after 4 (some .int), Cond.methodLink RX11 193 yX11_must]
def wsL_law0_r23 : List Cond := [Cond.instanceMethod yX11_must, Cond.selects RX11 yX11_must yX11_must, Cond.code yX11_must cX11_must 2 none, Cond.methodLink RX11 145 yX11_takesWord, Cond.instanceMethod yX11_takesWord, Cond.selects RX11 yX11_takesWord yX11_takesWord, Cond.code yX11_takesWord cX11_takesWord 2 (some .boolean), Cond.methodLink RX11 197 yX11_number, Cond.instanceMethod yX11_number, Cond.selects RX11 yX11_number yX11_number, Cond.code yX11_number cX11_number 4 (some .int), Cond.methodLink RX11 190 yX11_numberHere, Cond.instanceMethod yX11_numberHere, Cond.selects RX11 yX11_numberHere yX11_numberHere, Cond.code yX11_numberHere cX11_numberHere 3 (some .int), Cond.methodLink RX11 225 yX11_opens, Cond.instanceMethod yX11_opens, Cond.selects RX11 yX11_opens yX11_opens, Cond.code yX11_opens cX11_opens 3 (some .boolean), Cond.methodLink RX11 229 yX11_reelLine, Cond.instanceMethod yX11_reelLine, Cond.selects RX11 yX11_reelLine yX11_reelLine, Cond.code yX11_reelLine cX11_reelLine 2 none, Cond.methodLink RX11 277 yX11_newName]
def wsL_law0_r24 : List Cond := [Cond.instanceMethod yX11_newName, Cond.selects RX11 yX11_newName yX11_newName, Cond.code yX11_newName cX11_newName 3 none, Cond.methodLink RX11 176 yX11_mustName, Cond.instanceMethod yX11_mustName, Cond.selects RX11 yX11_mustName yX11_mustName, Cond.code yX11_mustName cX11_mustName 2 none, Cond.methodLink RX11 179 yX11_find, Cond.instanceMethod yX11_find, Cond.selects RX11 yX11_find yX11_find, Cond.code yX11_find cX11_find 4 (some .int), Cond.methodLink RX11 232 yX11_townLine, Cond.instanceMethod yX11_townLine, Cond.selects RX11 yX11_townLine yX11_townLine, Cond.code yX11_townLine cX11_townLine 1 none, Cond.methodLink RX11 235 yX11_markLine, Cond.instanceMethod yX11_markLine, Cond.selects RX11 yX11_markLine yX11_markLine, Cond.code yX11_markLine cX11_markLine 6 none, Cond.methodLink RX11 288 yX11_reelPassed, Cond.instanceMethod yX11_reelPassed, Cond.selects RX11 yX11_reelPassed yX11_reelPassed, Cond.code yX11_reelPassed cX11_reelPassed 2 (some .int), Cond.methodLink RX11 186 yX11_named]
def wsL_law0_r25 : List Cond := [Cond.instanceMethod yX11_named, Cond.selects RX11 yX11_named yX11_named, Cond.code yX11_named cX11_named 4 (some .int), Cond.methodLink RX11 291 yX11_frameOf, Cond.instanceMethod yX11_frameOf, Cond.selects RX11 yX11_frameOf yX11_frameOf, Cond.code yX11_frameOf cX11_frameOf 2 (some .int), Cond.methodLink RX11 238 yX11_joinLine, Cond.instanceMethod yX11_joinLine, Cond.selects RX11 yX11_joinLine yX11_joinLine, Cond.code yX11_joinLine cX11_joinLine 2 none, Cond.methodLink RX11 241 yX11_weakLine, Cond.instanceMethod yX11_weakLine, Cond.selects RX11 yX11_weakLine yX11_weakLine, Cond.code yX11_weakLine cX11_weakLine 5 none, Cond.methodLink RX11 244 yX11_manLine, Cond.instanceMethod yX11_manLine, Cond.selects RX11 yX11_manLine yX11_manLine, Cond.code yX11_manLine cX11_manLine 5 none, Cond.methodLink RX11 247 yX11_opensOnce, Cond.instanceMethod yX11_opensOnce, Cond.selects RX11 yX11_opensOnce yX11_opensOnce, Cond.code yX11_opensOnce cX11_opensOnce 3 (some .boolean), Cond.methodLink RX11 250 yX11_showsLine]
def wsL_law0_r26 : List Cond := [Cond.instanceMethod yX11_showsLine, Cond.selects RX11 yX11_showsLine yX11_showsLine, Cond.code yX11_showsLine cX11_showsLine 4 none, Cond.methodLink RX11 308 yX11_comma, Cond.instanceMethod yX11_comma, Cond.selects RX11 yX11_comma yX11_comma, Cond.code yX11_comma cX11_comma 1 (some .boolean), Cond.methodLink RX11 253 yX11_boysLine, Cond.instanceMethod yX11_boysLine, Cond.selects RX11 yX11_boysLine yX11_boysLine, Cond.code yX11_boysLine cX11_boysLine 2 none, Cond.methodLink RX11 256 yX11_seenLine, Cond.instanceMethod yX11_seenLine, Cond.selects RX11 yX11_seenLine yX11_seenLine, Cond.code yX11_seenLine cX11_seenLine 2 none, Cond.methodLink RX11 259 yX11_scratchLine, Cond.instanceMethod yX11_scratchLine, Cond.selects RX11 yX11_scratchLine yX11_scratchLine, Cond.code yX11_scratchLine cX11_scratchLine 2 none, Cond.methodLink RX11 209 yX11_copy, Cond.static yX11_copy, Cond.code yX11_copy cX11_copy 6 none, Cond.methodLink RL 28 yX10_fault, Cond.instanceMethod yX10_fault]
def wsL_law0_r27 : List Cond := [Cond.selects RX10 yX10_fault yX10_fault, Cond.code yX10_fault cX10_fault 1 (some .int), Cond.methodLink RL 32 yX11_fault, Cond.instanceMethod yX11_fault, Cond.selects RX11 yX11_fault yX11_fault, Cond.code yX11_fault cX11_fault 1 (some .int), Cond.methodLink RL 33 yX10_where, Cond.instanceMethod yX10_where, Cond.selects RX10 yX10_where yX10_where, Cond.code yX10_where cX10_where 1 (some .int), Cond.fieldLink RX10 121 "ReelChange$Text" "faultPlace" "I", Cond.methodLink RL 36 yX11_where, Cond.instanceMethod yX11_where, Cond.selects RX11 yX11_where yX11_where, Cond.code yX11_where cX11_where 1 (some .int), Cond.methodLink RL 37 yX10_reel, Cond.instanceMethod yX10_reel, Cond.selects RX10 yX10_reel yX10_reel, Cond.code yX10_reel cX10_reel 3 (some .int), Cond.fieldLink RX10 124 "ReelChange$State" "reels" "LReelChange$Table;", Cond.fieldLink RX10 131 "ReelChange$State" "marks" "LReelChange$Table;", Cond.fieldLink RX10 138 "ReelChange$House" "joins" "LReelChange$Table;", Cond.fieldLink RX10 144 "ReelChange$State" "weaks" "LReelChange$Table;", Cond.methodLink RX10 127 yX8_has]
def wsL_law0_r28 : List Cond := [Cond.instanceMethod yX8_has, Cond.selects RX8 yX8_has yX8_has, Cond.code yX8_has cX8_has 2 (some .boolean), Cond.methodLink RX10 134 yX8_howMany, Cond.instanceMethod yX8_howMany, Cond.selects RX8 yX8_howMany yX8_howMany, Cond.code yX8_howMany cX8_howMany 5 (some .int), Cond.methodLink RX8 37 yX8_at, Cond.methodLink RX10 141 yX7_mendedOn, Cond.instanceMethod yX7_mendedOn, Cond.selects RX7 yX7_mendedOn yX7_mendedOn, Cond.code yX7_mendedOn cX7_mendedOn 4 (some .int), Cond.methodLink RX7 54 yX7_isWeak, Cond.instanceMethod yX7_isWeak, Cond.selects RX7 yX7_isWeak yX7_isWeak, Cond.code yX7_isWeak cX7_isWeak 2 (some .boolean), Cond.methodLink RX7 47 yX8_has, Cond.methodLink RX10 147 yX8_at, Cond.methodLink RL 41 yX11_reel, Cond.instanceMethod yX11_reel, Cond.selects RX11 yX11_reel yX11_reel, Cond.code yX11_reel cX11_reel 3 (some .int), Cond.methodLink RX11 327 yX11_isReel, Cond.instanceMethod yX11_isReel]
def wsL_law0_r29 : List Cond := [Cond.selects RX11 yX11_isReel yX11_isReel, Cond.code yX11_isReel cX11_isReel 2 (some .boolean), Cond.methodLink RX11 330 yX11_marksOf, Cond.instanceMethod yX11_marksOf, Cond.selects RX11 yX11_marksOf yX11_marksOf, Cond.code yX11_marksOf cX11_marksOf 4 (some .int), Cond.methodLink RX11 333 yX11_joinsOf, Cond.instanceMethod yX11_joinsOf, Cond.selects RX11 yX11_joinsOf yX11_joinsOf, Cond.code yX11_joinsOf cX11_joinsOf 4 (some .int), Cond.methodLink RX11 339 yX11_isMended, Cond.instanceMethod yX11_isMended, Cond.selects RX11 yX11_isMended yX11_isMended, Cond.code yX11_isMended cX11_isMended 2 (some .boolean), Cond.methodLink RX11 320 yX11_hasBit, Cond.static yX11_hasBit, Cond.code yX11_hasBit cX11_hasBit 2 (some .boolean), Cond.methodLink RX11 336 yX11_weaksOf, Cond.instanceMethod yX11_weaksOf, Cond.selects RX11 yX11_weaksOf yX11_weaksOf, Cond.code yX11_weaksOf cX11_weaksOf 4 (some .int), Cond.methodLink RL 42 yX10_mark, Cond.instanceMethod yX10_mark, Cond.selects RX10 yX10_mark yX10_mark]
def wsL_law0_r30 : List Cond := [Cond.code yX10_mark cX10_mark 3 (some .int), Cond.fieldLink RX10 150 "ReelChange$House" "towns" "LReelChange$Table;", Cond.methodLink RX10 153 yX7_markBy, Cond.methodLink RL 45 yX11_mark, Cond.instanceMethod yX11_mark, Cond.selects RX11 yX11_mark yX11_mark, Cond.code yX11_mark cX11_mark 3 (some .int), Cond.methodLink RX11 342 yX11_markOf, Cond.instanceMethod yX11_markOf, Cond.selects RX11 yX11_markOf yX11_markOf, Cond.code yX11_markOf cX11_markOf 4 (some .int), Cond.methodLink RL 46 yX10_shows, Cond.instanceMethod yX10_shows, Cond.selects RX10 yX10_shows yX10_shows, Cond.code yX10_shows cX10_shows 2 (some .int), Cond.methodLink RX10 156 yX10_ofPlace, Cond.instanceMethod yX10_ofPlace, Cond.selects RX10 yX10_ofPlace yX10_ofPlace, Cond.code yX10_ofPlace cX10_ofPlace 3 (some .int), Cond.methodLink RL 49 yX11_shows, Cond.instanceMethod yX11_shows, Cond.selects RX11 yX11_shows yX11_shows, Cond.code yX11_shows cX11_shows 2 (some .int), Cond.methodLink RX11 345 yX11_isPlace]
def wsL_law0_r31 : List Cond := [Cond.instanceMethod yX11_isPlace, Cond.selects RX11 yX11_isPlace yX11_isPlace, Cond.code yX11_isPlace cX11_isPlace 2 (some .boolean), Cond.methodLink RX11 324 yX11_reelAt, Cond.instanceMethod yX11_reelAt, Cond.selects RX11 yX11_reelAt yX11_reelAt, Cond.code yX11_reelAt cX11_reelAt 2 (some .int), Cond.methodLink RL 50 yX10_thread, Cond.instanceMethod yX10_thread, Cond.selects RX10 yX10_thread yX10_thread, Cond.code yX10_thread cX10_thread 2 (some .int), Cond.methodLink RL 53 yX11_thread, Cond.instanceMethod yX11_thread, Cond.selects RX11 yX11_thread yX11_thread, Cond.code yX11_thread cX11_thread 2 (some .int), Cond.methodLink RL 54 yX10_believes, Cond.instanceMethod yX10_believes, Cond.selects RX10 yX10_believes yX10_believes, Cond.code yX10_believes cX10_believes 3 (some .int), Cond.methodLink RX10 159 yX10_ofNight, Cond.instanceMethod yX10_ofNight, Cond.selects RX10 yX10_ofNight yX10_ofNight, Cond.code yX10_ofNight cX10_ofNight 4 (some .int), Cond.fieldLink RX10 381 "ReelChange$Night" "rows" "LReelChange$Table;"]
def wsL_law0_r32 : List Cond := [Cond.methodLink RX10 163 yX10_runNight, Cond.instanceMethod yX10_runNight, Cond.selects RX10 yX10_runNight yX10_runNight, Cond.code yX10_runNight cX10_runNight 2 (some .boolean), Cond.fieldLink RX10 191 "ReelChange$House" "men" "LReelChange$Table;", Cond.methodLink RX10 321 yX5_meet, Cond.instanceMethod yX5_meet, Cond.selects RX5 yX5_meet yX5_meet, Cond.code yX5_meet cX5_meet 5 none, Cond.fieldLink RX5 46 "ReelChange$State" "places" "LReelChange$Table;", Cond.fieldLink RX5 51 "ReelChange$Table" "count" "I", Cond.fieldLink RX5 54 "ReelChange$House" "men" "LReelChange$Table;", Cond.methodLink RX5 63 Lib.Math.max.name, Cond.methodLink RX5 59 yX8_at, Cond.methodLink RX5 68 yX7_reelAt, Cond.instanceMethod yX7_reelAt, Cond.selects RX7 yX7_reelAt yX7_reelAt, Cond.code yX7_reelAt cX7_reelAt 2 (some .int), Cond.methodLink RX5 72 yX7_believedBy, Cond.instanceMethod yX7_believedBy, Cond.selects RX7 yX7_believedBy yX7_believedBy, Cond.code yX7_believedBy cX7_believedBy 8 (some .int), Cond.methodLink RX5 76 yX8_put, Cond.methodLink RX10 197 yX5_slipBy]
def wsL_law0_r33 : List Cond := [Cond.instanceMethod yX5_slipBy, Cond.selects RX5 yX5_slipBy yX5_slipBy, Cond.code yX5_slipBy cX5_slipBy 2 none, Cond.methodLink RX10 200 yX5_run, Cond.instanceMethod yX5_run, Cond.selects RX5 yX5_run yX5_run, Cond.code yX5_run cX5_run 5 none, Cond.fieldLink RX5 80 "ReelChange$State" "reels" "LReelChange$Table;", Cond.methodLink RX5 83 yX5_goBy, Cond.instanceMethod yX5_goBy, Cond.selects RX5 yX5_goBy yX5_goBy, Cond.code yX5_goBy cX5_goBy 3 none, Cond.methodLink RX5 86 yX5_showReel, Cond.instanceMethod yX5_showReel, Cond.selects RX5 yX5_showReel yX5_showReel, Cond.code yX5_showReel cX5_showReel 11 none, Cond.methodLink RX5 98 Lib.Math.min.name, Cond.static Lib.Math.min.name, Cond.code Lib.Math.min.name Lib.Math.min.code 2 (some .int), Cond.methodLink RX5 94 yX5_slipNow, Cond.instanceMethod yX5_slipNow, Cond.selects RX5 yX5_slipNow yX5_slipNow, Cond.code yX5_slipNow cX5_slipNow 1 (some .int), Cond.methodLink RX5 104 yX5_draw]
def wsL_law0_r34 : List Cond := [Cond.instanceMethod yX5_draw, Cond.selects RX5 yX5_draw yX5_draw, Cond.code yX5_draw cX5_draw 1 (some .int), Cond.constant RX5 114 (65537), Cond.methodLink RX5 101 yX3_number, Cond.methodLink RX5 90 yX5_snapWeakPlaces, Cond.instanceMethod yX5_snapWeakPlaces, Cond.selects RX5 yX5_snapWeakPlaces yX5_snapWeakPlaces, Cond.code yX5_snapWeakPlaces cX5_snapWeakPlaces 5 none, Cond.fieldLink RX5 107 "ReelChange$State" "weaks" "LReelChange$Table;", Cond.methodLink RX5 110 yX7_isWeak, Cond.methodLink RL 57 yX11_believes, Cond.instanceMethod yX11_believes, Cond.selects RX11 yX11_believes yX11_believes, Cond.code yX11_believes cX11_believes 3 (some .int), Cond.methodLink RX11 376 yX11_canTell, Cond.instanceMethod yX11_canTell, Cond.selects RX11 yX11_canTell yX11_canTell, Cond.code yX11_canTell cX11_canTell 3 (some .boolean), Cond.methodLink RX11 370 yX11_isMan, Cond.instanceMethod yX11_isMan, Cond.selects RX11 yX11_isMan yX11_isMan, Cond.code yX11_isMan cX11_isMan 2 (some .boolean), Cond.methodLink RX11 373 yX11_layTold]
def wsL_law0_r35 : List Cond := [Cond.instanceMethod yX11_layTold, Cond.selects RX11 yX11_layTold yX11_layTold, Cond.code yX11_layTold cX11_layTold 3 none, Cond.methodLink RX11 367 yX11_layNight, Cond.instanceMethod yX11_layNight, Cond.selects RX11 yX11_layNight yX11_layNight, Cond.code yX11_layNight cX11_layNight 6 none, Cond.methodLink RX11 354 yX11_framesAt, Cond.instanceMethod yX11_framesAt, Cond.selects RX11 yX11_framesAt yX11_framesAt, Cond.code yX11_framesAt cX11_framesAt 2 (some .int), Cond.methodLink RX11 357 yX11_isGone, Cond.instanceMethod yX11_isGone, Cond.selects RX11 yX11_isGone yX11_isGone, Cond.code yX11_isGone cX11_isGone 2 (some .boolean), Cond.methodLink RX11 360 yX11_follows, Cond.instanceMethod yX11_follows, Cond.selects RX11 yX11_follows yX11_follows, Cond.code yX11_follows cX11_follows 7 none, Cond.methodLink RX11 364 yX11_believesOf, Cond.instanceMethod yX11_believesOf, Cond.selects RX11 yX11_believesOf yX11_believesOf, Cond.code yX11_believesOf cX11_believesOf 7 (some .int), Cond.methodLink RX11 348 yX11_least]
def wsL_law0_r36 : List Cond := [Cond.static yX11_least, Cond.code yX11_least cX11_least 2 (some .int), Cond.methodLink RX11 351 yX11_most, Cond.static yX11_most, Cond.code yX11_most cX11_most 2 (some .int), Cond.methodLink RL 58 yX10_starts, Cond.instanceMethod yX10_starts, Cond.selects RX10 yX10_starts yX10_starts, Cond.code yX10_starts cX10_starts 3 (some .int), Cond.methodLink RL 61 yX11_starts, Cond.instanceMethod yX11_starts, Cond.selects RX11 yX11_starts yX11_starts, Cond.code yX11_starts cX11_starts 3 (some .int), Cond.methodLink RL 62 yX10_changes, Cond.instanceMethod yX10_changes, Cond.selects RX10 yX10_changes yX10_changes, Cond.code yX10_changes cX10_changes 3 (some .int), Cond.methodLink RL 65 yX11_changes, Cond.instanceMethod yX11_changes, Cond.selects RX11 yX11_changes yX11_changes, Cond.code yX11_changes cX11_changes 3 (some .int), Cond.methodLink RL 66 yX10_lost, Cond.instanceMethod yX10_lost, Cond.selects RX10 yX10_lost yX10_lost]
def wsL_law0_r37 : List Cond := [Cond.code yX10_lost cX10_lost 3 (some .int), Cond.methodLink RL 69 yX11_lost, Cond.instanceMethod yX11_lost, Cond.selects RX11 yX11_lost yX11_lost, Cond.code yX11_lost cX11_lost 3 (some .int), Cond.methodLink RL 70 yX10_black, Cond.instanceMethod yX10_black, Cond.selects RX10 yX10_black yX10_black, Cond.code yX10_black cX10_black 3 (some .int), Cond.methodLink RL 73 yX11_black, Cond.instanceMethod yX11_black, Cond.selects RX11 yX11_black yX11_black, Cond.code yX11_black cX11_black 3 (some .int), Cond.methodLink RL 74 yX10_tail, Cond.instanceMethod yX10_tail, Cond.selects RX10 yX10_tail yX10_tail, Cond.code yX10_tail cX10_tail 3 (some .int), Cond.methodLink RL 77 yX11_tail, Cond.instanceMethod yX11_tail, Cond.selects RX11 yX11_tail yX11_tail, Cond.code yX11_tail cX11_tail 3 (some .int), Cond.methodLink RX11 379 yX11_tailOf, Cond.instanceMethod yX11_tailOf, Cond.selects RX11 yX11_tailOf yX11_tailOf]
def wsL_law0_r38 : List Cond := [Cond.code yX11_tailOf cX11_tailOf 2 (some .int), Cond.methodLink RL 78 yX10_begins, Cond.instanceMethod yX10_begins, Cond.selects RX10 yX10_begins yX10_begins, Cond.code yX10_begins cX10_begins 3 (some .int), Cond.methodLink RL 81 yX11_begins, Cond.instanceMethod yX11_begins, Cond.selects RX11 yX11_begins yX11_begins, Cond.code yX11_begins cX11_begins 3 (some .int), Cond.methodLink RL 82 yX10_length, Cond.instanceMethod yX10_length, Cond.selects RX10 yX10_length yX10_length, Cond.code yX10_length cX10_length 2 (some .int), Cond.methodLink RX10 166 yX5_endTick, Cond.instanceMethod yX5_endTick, Cond.selects RX5 yX5_endTick yX5_endTick, Cond.code yX5_endTick cX5_endTick 1 (some .int), Cond.methodLink RL 85 yX11_length, Cond.instanceMethod yX11_length, Cond.selects RX11 yX11_length yX11_length, Cond.code yX11_length cX11_length 2 (some .int), Cond.methodLink RL 86 yX10_all, Cond.instanceMethod yX10_all, Cond.selects RX10 yX10_all yX10_all]
def wsL_law0_r39 : List Cond := [Cond.code yX10_all cX10_all 3 (some .int), Cond.methodLink RX10 170 yX5_sum, Cond.instanceMethod yX5_sum, Cond.selects RX5 yX5_sum yX5_sum, Cond.code yX5_sum cX5_sum 4 (some .int), Cond.methodLink RL 89 yX11_all, Cond.instanceMethod yX11_all, Cond.selects RX11 yX11_all yX11_all, Cond.code yX11_all cX11_all 3 (some .int), Cond.methodLink RX11 382 yX11_sumOf, Cond.instanceMethod yX11_sumOf, Cond.selects RX11 yX11_sumOf yX11_sumOf, Cond.code yX11_sumOf cX11_sumOf 4 (some .int), Cond.methodLink RL 90 yX10_worst, Cond.instanceMethod yX10_worst, Cond.selects RX10 yX10_worst yX10_worst, Cond.code yX10_worst cX10_worst 2 (some .int), Cond.methodLink RX10 173 yX5_worstChange, Cond.instanceMethod yX5_worstChange, Cond.selects RX5 yX5_worstChange yX5_worstChange, Cond.code yX5_worstChange cX5_worstChange 5 (some .int), Cond.methodLink RL 93 yX11_worst, Cond.instanceMethod yX11_worst, Cond.selects RX11 yX11_worst yX11_worst]
def wsL_law0_r40 : List Cond := [Cond.code yX11_worst cX11_worst 6 (some .int), Cond.methodLink RL 94 yX10_exact, Cond.instanceMethod yX10_exact, Cond.selects RX10 yX10_exact yX10_exact, Cond.code yX10_exact cX10_exact 3 (some .int), Cond.methodLink RX10 176 yX5_exactThread, Cond.instanceMethod yX5_exactThread, Cond.selects RX5 yX5_exactThread yX5_exactThread, Cond.code yX5_exactThread cX5_exactThread 4 (some .int), Cond.methodLink RL 97 yX11_exact, Cond.instanceMethod yX11_exact, Cond.selects RX11 yX11_exact yX11_exact, Cond.code yX11_exact cX11_exact 3 (some .int), Cond.methodLink RL 98 yX10_signs, Cond.instanceMethod yX10_signs, Cond.selects RX10 yX10_signs yX10_signs, Cond.code yX10_signs cX10_signs 2 (some .int), Cond.methodLink RX10 180 yX5_signsSo, Cond.instanceMethod yX5_signsSo, Cond.selects RX5 yX5_signsSo yX5_signsSo, Cond.code yX5_signsSo cX5_signsSo 5 (some .int), Cond.fieldLink RX5 118 "ReelChange$House" "signs" "LReelChange$Table;", Cond.methodLink RL 101 yX11_signs, Cond.instanceMethod yX11_signs]
def wsL_law0_r41 : List Cond := [Cond.selects RX11 yX11_signs yX11_signs, Cond.code yX11_signs cX11_signs 2 (some .int), Cond.methodLink RX11 422 yX11_signsOf, Cond.instanceMethod yX11_signsOf, Cond.selects RX11 yX11_signsOf yX11_signsOf, Cond.code yX11_signsOf cX11_signsOf 5 (some .int), Cond.methodLink RL 102 yX10_fits, Cond.instanceMethod yX10_fits, Cond.selects RX10 yX10_fits yX10_fits, Cond.code yX10_fits cX10_fits 4 (some .int), Cond.fieldLink RX10 188 "ReelChange$House" "signs" "LReelChange$Table;", Cond.methodLink RX10 184 yX10_isOpen, Cond.instanceMethod yX10_isOpen, Cond.selects RX10 yX10_isOpen yX10_isOpen, Cond.code yX10_isOpen cX10_isOpen 1 (some .boolean), Cond.methodLink RL 105 yX11_fits, Cond.instanceMethod yX11_fits, Cond.selects RX11 yX11_fits yX11_fits, Cond.code yX11_fits cX11_fits 3 (some .int), Cond.methodLink RL 106 yX10_bestSlip, Cond.instanceMethod yX10_bestSlip, Cond.selects RX10 yX10_bestSlip yX10_bestSlip, Cond.code yX10_bestSlip cX10_bestSlip 2 (some .int), Cond.methodLink RX10 194 yX10_leastSlip]
def wsL_law0_r42 : List Cond := [Cond.instanceMethod yX10_leastSlip, Cond.selects RX10 yX10_leastSlip yX10_leastSlip, Cond.code yX10_leastSlip cX10_leastSlip 6 (some .int), Cond.constant RX10 333 (2147483647), Cond.methodLink RX10 204 yX5_waste, Cond.instanceMethod yX5_waste, Cond.selects RX5 yX5_waste yX5_waste, Cond.code yX5_waste cX5_waste 1 (some .int), Cond.methodLink RX5 115 yX5_sum, Cond.methodLink RL 109 yX11_bestSlip, Cond.instanceMethod yX11_bestSlip, Cond.selects RX11 yX11_bestSlip yX11_bestSlip, Cond.code yX11_bestSlip cX11_bestSlip 2 (some .int), Cond.methodLink RX11 428 yX11_bestSlipOf, Cond.instanceMethod yX11_bestSlipOf, Cond.selects RX11 yX11_bestSlipOf yX11_bestSlipOf, Cond.code yX11_bestSlipOf cX11_bestSlipOf 5 (some .int), Cond.fieldLink RX11 425 "ReelChangeModel" "bestSum" "I", Cond.methodLink RL 110 yX10_bySlip, Cond.instanceMethod yX10_bySlip, Cond.selects RX10 yX10_bySlip yX10_bySlip, Cond.code yX10_bySlip cX10_bySlip 2 (some .int), Cond.methodLink RL 113 yX11_bySlip, Cond.instanceMethod yX11_bySlip]
def wsL_law0_r43 : List Cond := [Cond.selects RX11 yX11_bySlip yX11_bySlip, Cond.code yX11_bySlip cX11_bySlip 2 (some .int), Cond.methodLink RL 114 yX10_needs, Cond.instanceMethod yX10_needs, Cond.selects RX10 yX10_needs yX10_needs, Cond.code yX10_needs cX10_needs 3 (some .int), Cond.methodLink RX10 207 yX5_needed, Cond.instanceMethod yX5_needed, Cond.selects RX5 yX5_needed yX5_needed, Cond.code yX5_needed cX5_needed 2 (some .int), Cond.methodLink RL 117 yX11_needs, Cond.instanceMethod yX11_needs, Cond.selects RX11 yX11_needs yX11_needs, Cond.code yX11_needs cX11_needs 3 (some .int), Cond.methodLink RX11 388 yX11_needsOf, Cond.instanceMethod yX11_needsOf, Cond.selects RX11 yX11_needsOf yX11_needsOf, Cond.code yX11_needsOf cX11_needsOf 2 (some .int), Cond.methodLink RL 118 yX10_dies, Cond.instanceMethod yX10_dies, Cond.selects RX10 yX10_dies yX10_dies, Cond.code yX10_dies cX10_dies 3 (some .int), Cond.fieldLink RX10 210 "ReelChange$State" "trims" "I", Cond.fieldLink RX10 217 "ReelChange$Arcs" "dying" "I"]
def wsL_law0_r44 : List Cond := [Cond.methodLink RX10 213 yX0_burn, Cond.instanceMethod yX0_burn, Cond.selects RX0 yX0_burn yX0_burn, Cond.code yX0_burn cX0_burn 9 none, Cond.fieldLink RX0 30 "ReelChange$Night" "rows" "LReelChange$Table;", Cond.fieldLink RX0 35 "ReelChange$Table" "count" "I", Cond.methodLink RX0 24 yX3_number, Cond.methodLink RX0 38 yX8_at, Cond.methodLink RX0 42 yX5_idle, Cond.instanceMethod yX5_idle, Cond.selects RX5 yX5_idle yX5_idle, Cond.code yX5_idle cX5_idle 2 (some .int), Cond.methodLink RX0 45 yX5_needed, Cond.methodLink RX0 48 yX8_put, Cond.methodLink RL 121 yX11_dies, Cond.instanceMethod yX11_dies, Cond.selects RX11 yX11_dies yX11_dies, Cond.code yX11_dies cX11_dies 3 (some .int), Cond.methodLink RX11 391 yX11_burn, Cond.instanceMethod yX11_burn, Cond.selects RX11 yX11_burn yX11_burn, Cond.code yX11_burn cX11_burn 6 (some .boolean), Cond.methodLink RX11 385 yX11_freeOf, Cond.instanceMethod yX11_freeOf]
def wsL_law0_r45 : List Cond := [Cond.selects RX11 yX11_freeOf yX11_freeOf, Cond.code yX11_freeOf cX11_freeOf 2 (some .int), Cond.methodLink RL 122 yX10_firstDies, Cond.instanceMethod yX10_firstDies, Cond.selects RX10 yX10_firstDies yX10_firstDies, Cond.code yX10_firstDies cX10_firstDies 2 (some .int), Cond.methodLink RX10 220 yX0_firstDying, Cond.instanceMethod yX0_firstDying, Cond.selects RX0 yX0_firstDying yX0_firstDying, Cond.code yX0_firstDying cX0_firstDying 2 (some .int), Cond.fieldLink RX0 52 "ReelChange$Table" "room" "I", Cond.methodLink RL 125 yX11_firstDies, Cond.instanceMethod yX11_firstDies, Cond.selects RX11 yX11_firstDies yX11_firstDies, Cond.code yX11_firstDies cX11_firstDies 3 (some .int), Cond.methodLink RL 126 yX10_free, Cond.instanceMethod yX10_free, Cond.selects RX10 yX10_free yX10_free, Cond.code yX10_free cX10_free 3 (some .int), Cond.methodLink RX10 223 yX5_idle, Cond.methodLink RL 129 yX11_free, Cond.instanceMethod yX11_free, Cond.selects RX11 yX11_free yX11_free, Cond.code yX11_free cX11_free 3 (some .int)]
def wsL_law0_r46 : List Cond := [Cond.methodLink RL 130 yX10_arc, Cond.instanceMethod yX10_arc, Cond.selects RX10 yX10_arc yX10_arc, Cond.code yX10_arc cX10_arc 3 (some .int), Cond.fieldLink RX10 226 "ReelChange$Arcs" "left" "LReelChange$Table;", Cond.methodLink RL 133 yX11_arc, Cond.instanceMethod yX11_arc, Cond.selects RX11 yX11_arc yX11_arc, Cond.code yX11_arc cX11_arc 3 (some .int), Cond.methodLink RL 134 yX10_never, Cond.instanceMethod yX10_never, Cond.selects RX10 yX10_never yX10_never, Cond.code yX10_never cX10_never 2 (some .int), Cond.methodLink RX10 229 yX0_fewestTrims, Cond.instanceMethod yX0_fewestTrims, Cond.selects RX0 yX0_fewestTrims yX0_fewestTrims, Cond.code yX0_fewestTrims cX0_fewestTrims 6 (some .int), Cond.constant RX0 57 (2147483647), Cond.methodLink RX0 58 yJ6_bitCount_0f7a4, Cond.static yJ6_bitCount_0f7a4, Cond.initialized RJ6, Cond.code yJ6_bitCount_0f7a4 cJ6_bitCount_0f7a4 1 (some .int), Cond.constant RJ6 265 (1431655765), Cond.constant RJ6 266 (858993459)]
def wsL_law0_r47 : List Cond := [Cond.constant RJ6 267 (252645135), Cond.methodLink RX0 61 yX0_burn, Cond.methodLink RL 137 yX11_never, Cond.instanceMethod yX11_never, Cond.selects RX11 yX11_never yX11_never, Cond.code yX11_never cX11_never 4 (some .int), Cond.methodLink RX11 394 yX11_ones, Cond.static yX11_ones, Cond.code yX11_ones cX11_ones 3 (some .int), Cond.methodLink RL 138 yX10_truly, Cond.instanceMethod yX10_truly, Cond.selects RX10 yX10_truly yX10_truly, Cond.code yX10_truly cX10_truly 4 (some .long), Cond.methodLink RX10 233 yX7_isMeantPerhaps, Cond.instanceMethod yX7_isMeantPerhaps, Cond.selects RX7 yX7_isMeantPerhaps yX7_isMeantPerhaps, Cond.code yX7_isMeantPerhaps cX7_isMeantPerhaps 3 (some .boolean), Cond.methodLink RX7 57 yX7_isMarked, Cond.instanceMethod yX7_isMarked, Cond.selects RX7 yX7_isMarked yX7_isMarked, Cond.code yX7_isMarked cX7_isMarked 5 (some .boolean), Cond.methodLink RX10 237 yX7_weight, Cond.instanceMethod yX7_weight, Cond.selects RX7 yX7_weight yX7_weight]
def wsL_law0_r48 : List Cond := [Cond.code yX7_weight cX7_weight 7 (some .int), Cond.methodLink RX7 61 Lib.Math.abs.name, Cond.static Lib.Math.abs.name, Cond.code Lib.Math.abs.name Lib.Math.abs.code 1 (some .int), Cond.methodLink RX10 241 yX7_allWeights, Cond.instanceMethod yX7_allWeights, Cond.selects RX7 yX7_allWeights yX7_allWeights, Cond.code yX7_allWeights cX7_allWeights 6 (some .int), Cond.methodLink RX7 67 yX7_weight, Cond.methodLink RX10 245 yX2_set, Cond.instanceMethod yX2_set, Cond.selects RX2 yX2_set yX2_set, Cond.code yX2_set cX2_set 5 none, Cond.methodLink RX10 249 yX10_tellPart, Cond.instanceMethod yX10_tellPart, Cond.selects RX10 yX10_tellPart yX10_tellPart, Cond.code yX10_tellPart cX10_tellPart 2 (some .long), Cond.fieldLink RX10 280 "ReelChange$Fraction" "lower" "J", Cond.fieldLink RX10 284 "ReelChange$Fraction" "upper" "J", Cond.methodLink RX10 378 yX2_reduce, Cond.instanceMethod yX2_reduce, Cond.selects RX2 yX2_reduce yX2_reduce, Cond.code yX2_reduce cX2_reduce 8 none, Cond.methodLink RL 142 yX11_truly]
def wsL_law0_r49 : List Cond := [Cond.instanceMethod yX11_truly, Cond.selects RX11 yX11_truly yX11_truly, Cond.code yX11_truly cX11_truly 4 (some .long), Cond.methodLink RX11 397 yX11_isDot, Cond.instanceMethod yX11_isDot, Cond.selects RX11 yX11_isDot yX11_isDot, Cond.code yX11_isDot cX11_isDot 5 (some .boolean), Cond.methodLink RX11 400 yX11_weightOf, Cond.instanceMethod yX11_weightOf, Cond.selects RX11 yX11_weightOf yX11_weightOf, Cond.code yX11_weightOf cX11_weightOf 7 (some .long), Cond.methodLink RX11 404 yX11_allWeights, Cond.instanceMethod yX11_allWeights, Cond.selects RX11 yX11_allWeights yX11_allWeights, Cond.code yX11_allWeights cX11_allWeights 5 (some .long), Cond.methodLink RX11 408 yX11_lowest, Cond.static yX11_lowest, Cond.code yX11_lowest cX11_lowest 11 (some .long), Cond.methodLink RL 143 yX10_likeliest, Cond.instanceMethod yX10_likeliest, Cond.selects RX10 yX10_likeliest yX10_likeliest, Cond.code yX10_likeliest cX10_likeliest 2 (some .int), Cond.methodLink RX10 253 yX7_likeliestFrame, Cond.instanceMethod yX7_likeliestFrame]
def wsL_law0_r50 : List Cond := [Cond.selects RX7 yX7_likeliestFrame yX7_likeliestFrame, Cond.code yX7_likeliestFrame cX7_likeliestFrame 8 (some .int), Cond.methodLink RL 146 yX11_likeliest, Cond.instanceMethod yX11_likeliest, Cond.selects RX11 yX11_likeliest yX11_likeliest, Cond.code yX11_likeliest cX11_likeliest 4 (some .int), Cond.methodLink RL 147 yX10_who, Cond.instanceMethod yX10_who, Cond.selects RX10 yX10_who yX10_who, Cond.code yX10_who cX10_who 3 (some .int), Cond.fieldLink RX10 256 "ReelChange$House" "scratches" "LReelChange$Table;", Cond.methodLink RX10 259 yX10_nearestMark, Cond.instanceMethod yX10_nearestMark, Cond.selects RX10 yX10_nearestMark yX10_nearestMark, Cond.code yX10_nearestMark cX10_nearestMark 5 (some .int), Cond.methodLink RX10 262 yX10_farFrom, Cond.instanceMethod yX10_farFrom, Cond.selects RX10 yX10_farFrom yX10_farFrom, Cond.code yX10_farFrom cX10_farFrom 5 (some .int), Cond.methodLink RX10 384 Lib.Math.abs.name, Cond.methodLink RL 150 yX11_who, Cond.instanceMethod yX11_who, Cond.selects RX11 yX11_who yX11_who, Cond.code yX11_who cX11_who 2 (some .int)]
def wsL_law0_r51 : List Cond := [Cond.fieldLink RX11 434 "ReelChangeModel" "nearestTown" "I", Cond.methodLink RX11 440 yX11_layScratch, Cond.instanceMethod yX11_layScratch, Cond.selects RX11 yX11_layScratch yX11_layScratch, Cond.code yX11_layScratch cX11_layScratch 4 (some .boolean), Cond.fieldLink RX11 431 "ReelChangeModel" "nearest" "I", Cond.methodLink RX11 437 yX11_farOf, Cond.instanceMethod yX11_farOf, Cond.selects RX11 yX11_farOf yX11_farOf, Cond.code yX11_farOf cX11_farOf 8 (some .int), Cond.methodLink RL 151 yX10_far, Cond.instanceMethod yX10_far, Cond.selects RX10 yX10_far yX10_far, Cond.code yX10_far cX10_far 3 (some .int), Cond.methodLink RL 154 yX11_far, Cond.instanceMethod yX11_far, Cond.selects RX11 yX11_far yX11_far, Cond.code yX11_far cX11_far 2 (some .int), Cond.methodLink RL 155 yX10_missing, Cond.instanceMethod yX10_missing, Cond.selects RX10 yX10_missing yX10_missing, Cond.code yX10_missing cX10_missing 4 (some .int), Cond.methodLink RX10 268 Lib.Math.max.name, Cond.methodLink RX10 265 yX10_lackedBy]
def wsL_law0_r52 : List Cond := [Cond.instanceMethod yX10_lackedBy, Cond.selects RX10 yX10_lackedBy yX10_lackedBy, Cond.code yX10_lackedBy cX10_lackedBy 4 (some .int), Cond.methodLink RL 159 yX11_missing, Cond.instanceMethod yX11_missing, Cond.selects RX11 yX11_missing yX11_missing, Cond.code yX11_missing cX11_missing 5 (some .int), Cond.methodLink RL 160 yX10_words, Cond.instanceMethod yX10_words, Cond.selects RX10 yX10_words yX10_words, Cond.code yX10_words cX10_words 4 (some .int), Cond.methodLink RL 163 yX11_words, Cond.instanceMethod yX11_words, Cond.selects RX11 yX11_words yX11_words, Cond.code yX11_words cX11_words 4 (some .int), Cond.methodLink RL 164 yX10_holds, Cond.instanceMethod yX10_holds, Cond.selects RX10 yX10_holds yX10_holds, Cond.code yX10_holds cX10_holds 4 (some .long), Cond.methodLink RX10 273 yX7_isWeak, Cond.methodLink RX10 276 yX2_setPower, Cond.instanceMethod yX2_setPower, Cond.selects RX2 yX2_setPower yX2_setPower, Cond.code yX2_setPower cX2_setPower 5 none]
def wsL_law0_r53 : List Cond := [Cond.methodLink RL 167 yX11_holds, Cond.instanceMethod yX11_holds, Cond.selects RX11 yX11_holds yX11_holds, Cond.code yX11_holds cX11_holds 4 (some .long), Cond.methodLink RX11 412 yX11_isWeak, Cond.instanceMethod yX11_isWeak, Cond.selects RX11 yX11_isWeak yX11_isWeak, Cond.code yX11_isWeak cX11_isWeak 2 (some .boolean), Cond.methodLink RX11 415 yX11_power, Cond.static yX11_power, Cond.code yX11_power cX11_power 5 (some .long), Cond.methodLink RL 168 yX10_pays, Cond.instanceMethod yX10_pays, Cond.selects RX10 yX10_pays yX10_pays, Cond.code yX10_pays cX10_pays 5 (some .int), Cond.constantLong RX10 290 (2), Cond.methodLink RX10 287 yX3_number, Cond.methodLink RL 171 yX11_pays, Cond.instanceMethod yX11_pays, Cond.selects RX11 yX11_pays yX11_pays, Cond.code yX11_pays cX11_pays 5 (some .int), Cond.constantLong RX11 418 (2), Cond.methodLink RL 172 yX10_wears, Cond.instanceMethod yX10_wears]
def wsL_law0_r54 : List Cond := [Cond.selects RX10 yX10_wears yX10_wears, Cond.code yX10_wears cX10_wears 6 (some .long), Cond.constantLong RX10 292 (100), Cond.methodLink RL 175 yX11_wears, Cond.instanceMethod yX11_wears, Cond.selects RX11 yX11_wears yX11_wears, Cond.code yX11_wears cX11_wears 7 (some .long), Cond.constantLong RX11 420 (100), Cond.methodLink RL 176 yX10_apart, Cond.instanceMethod yX10_apart, Cond.selects RX10 yX10_apart yX10_apart, Cond.code yX10_apart cX10_apart 4 (some .int), Cond.methodLink RX10 294 yX10_rideTrouble, Cond.instanceMethod yX10_rideTrouble, Cond.selects RX10 yX10_rideTrouble yX10_rideTrouble, Cond.code yX10_rideTrouble cX10_rideTrouble 4 (some .int), Cond.fieldLink RX10 303 "ReelChange$House" "boys" "LReelChange$Table;", Cond.methodLink RX10 297 yX10_boysMeant, Cond.instanceMethod yX10_boysMeant, Cond.selects RX10 yX10_boysMeant yX10_boysMeant, Cond.code yX10_boysMeant cX10_boysMeant 2 (some .int), Cond.methodLink RX10 300 yX10_apartBy, Cond.instanceMethod yX10_apartBy, Cond.selects RX10 yX10_apartBy yX10_apartBy]
def wsL_law0_r55 : List Cond := [Cond.code yX10_apartBy cX10_apartBy 2 (some .int), Cond.fieldLink RX10 387 "ReelChange$Riders" "apartNeeded" "I", Cond.methodLink RX10 306 yX6_carry, Cond.instanceMethod yX6_carry, Cond.selects RX6 yX6_carry yX6_carry, Cond.code yX6_carry cX6_carry 10 none, Cond.fieldLink RX6 31 "ReelChange$Night" "rows" "LReelChange$Table;", Cond.fieldLink RX6 36 "ReelChange$Table" "count" "I", Cond.methodLink RX6 47 Lib.Math.max.name, Cond.methodLink RX6 27 yX8_put, Cond.methodLink RX6 39 yX6_soonestBack, Cond.instanceMethod yX6_soonestBack, Cond.selects RX6 yX6_soonestBack yX6_soonestBack, Cond.code yX6_soonestBack cX6_soonestBack 4 (some .int), Cond.methodLink RX6 43 yX8_at, Cond.methodLink RL 179 yX11_apart, Cond.instanceMethod yX11_apart, Cond.selects RX11 yX11_apart yX11_apart, Cond.code yX11_apart cX11_apart 4 (some .int), Cond.methodLink RX11 446 yX11_boyWhy, Cond.instanceMethod yX11_boyWhy, Cond.selects RX11 yX11_boyWhy yX11_boyWhy, Cond.code yX11_boyWhy cX11_boyWhy 2 (some .int), Cond.methodLink RX11 449 yX11_apartOf]
def wsL_law0_r56 : List Cond := [Cond.instanceMethod yX11_apartOf, Cond.selects RX11 yX11_apartOf yX11_apartOf, Cond.code yX11_apartOf cX11_apartOf 5 (some .int), Cond.methodLink RX11 443 yX11_carry, Cond.instanceMethod yX11_carry, Cond.selects RX11 yX11_carry yX11_carry, Cond.code yX11_carry cX11_carry 6 none, Cond.methodLink RL 180 yX10_waits, Cond.instanceMethod yX10_waits, Cond.selects RX10 yX10_waits yX10_waits, Cond.code yX10_waits cX10_waits 5 (some .int), Cond.fieldLink RX10 310 "ReelChange$Riders" "waited" "I", Cond.methodLink RL 184 yX11_waits, Cond.instanceMethod yX11_waits, Cond.selects RX11 yX11_waits yX11_waits, Cond.code yX11_waits cX11_waits 9 (some .int), Cond.methodLink RL 185 yX10_boys, Cond.instanceMethod yX10_boys, Cond.selects RX10 yX10_boys yX10_boys, Cond.code yX10_boys cX10_boys 5 (some .int), Cond.methodLink RL 188 yX11_boys, Cond.instanceMethod yX11_boys, Cond.selects RX11 yX11_boys yX11_boys, Cond.code yX11_boys cX11_boys 5 (some .int)]
def wsL_law0_r57 : List Cond := [Cond.methodLink RL 189 yX10_well, Cond.instanceMethod yX10_well, Cond.selects RX10 yX10_well yX10_well, Cond.code yX10_well cX10_well 2 (some .long), Cond.methodLink RL 193 yX11_well, Cond.instanceMethod yX11_well, Cond.selects RX11 yX11_well yX11_well, Cond.code yX11_well cX11_well 2 (some .long), Cond.methodLink RL 194 yX10_wrong, Cond.instanceMethod yX10_wrong, Cond.selects RX10 yX10_wrong yX10_wrong, Cond.code yX10_wrong cX10_wrong 1 (some .int), Cond.methodLink RX10 313 yX1_wrongPlaces, Cond.instanceMethod yX1_wrongPlaces, Cond.selects RX1 yX1_wrongPlaces yX1_wrongPlaces, Cond.code yX1_wrongPlaces cX1_wrongPlaces 5 (some .int), Cond.fieldLink RX1 27 "ReelChange$State" "places" "LReelChange$Table;", Cond.fieldLink RX1 32 "ReelChange$Table" "count" "I", Cond.methodLink RX1 36 yX7_reelAt, Cond.methodLink RL 197 yX11_wrong, Cond.instanceMethod yX11_wrong, Cond.selects RX11 yX11_wrong yX11_wrong, Cond.code yX11_wrong cX11_wrong 4 (some .int), Cond.methodLink RL 198 yX10_exchanges]
def wsL_law0_r58 : List Cond := [Cond.instanceMethod yX10_exchanges, Cond.selects RX10 yX10_exchanges yX10_exchanges, Cond.code yX10_exchanges cX10_exchanges 1 (some .int), Cond.methodLink RX10 317 yX1_fewest, Cond.instanceMethod yX1_fewest, Cond.selects RX1 yX1_fewest yX1_fewest, Cond.code yX1_fewest cX1_fewest 8 (some .int), Cond.methodLink RX1 40 Lib.Math.min.name, Cond.methodLink RX1 56 Lib.Math.max.name, Cond.methodLink RX1 46 yX1_sort, Cond.instanceMethod yX1_sort, Cond.selects RX1 yX1_sort yX1_sort, Cond.code yX1_sort cX1_sort 4 none, Cond.fieldLink RX1 66 "ReelChange$State" "reels" "LReelChange$Table;", Cond.methodLink RX1 63 yX8_clear, Cond.methodLink RX1 69 yX8_howMany, Cond.methodLink RX1 72 yX8_add, Cond.methodLink RX1 50 yX1_weigh, Cond.instanceMethod yX1_weigh, Cond.selects RX1 yX1_weigh yX1_weigh, Cond.code yX1_weigh cX1_weigh 3 none, Cond.methodLink RX1 75 yX1_unit, Cond.static yX1_unit, Cond.code yX1_unit cX1_unit 1 (some .long)]
def wsL_law0_r59 : List Cond := [Cond.methodLink RX1 53 yX8_at, Cond.methodLink RX1 59 yX8_put, Cond.methodLink RL 201 yX11_exchanges, Cond.instanceMethod yX11_exchanges, Cond.selects RX11 yX11_exchanges yX11_exchanges, Cond.code yX11_exchanges cX11_exchanges 5 (some .int), Cond.methodLink RX11 452 yX11_laySorted, Cond.instanceMethod yX11_laySorted, Cond.selects RX11 yX11_laySorted yX11_laySorted, Cond.code yX11_laySorted cX11_laySorted 3 none, Cond.methodLink RX11 455 yX11_isEven, Cond.instanceMethod yX11_isEven, Cond.selects RX11 yX11_isEven yX11_isEven, Cond.code yX11_isEven cX11_isEven 6 (some .boolean), Cond.methodLink RL 202 yX10_dark, Cond.instanceMethod yX10_dark, Cond.selects RX10 yX10_dark yX10_dark, Cond.code yX10_dark cX10_dark 3 (some .int), Cond.constant RX10 320 (65536), Cond.fieldLink RX10 328 "ReelChange$Night" "snapped" "I", Cond.methodLink RX10 325 yX5_drawBy, Cond.instanceMethod yX5_drawBy, Cond.selects RX5 yX5_drawBy yX5_drawBy, Cond.code yX5_drawBy cX5_drawBy 2 none]
def wsL_law0_r60 : List Cond := [Cond.methodLink RL 205 yX11_dark, Cond.instanceMethod yX11_dark, Cond.selects RX11 yX11_dark yX11_dark, Cond.code yX11_dark cX11_dark 3 (some .int), Cond.constant RX11 468 (65536), Cond.fieldLink RX11 458 "ReelChangeModel" "seed1" "I", Cond.fieldLink RX11 462 "ReelChangeModel" "darkNow" "I", Cond.methodLink RX11 469 yX11_drawNight, Cond.instanceMethod yX11_drawNight, Cond.selects RX11 yX11_drawNight yX11_drawNight, Cond.code yX11_drawNight cX11_drawNight 5 none, Cond.methodLink RX11 465 yX11_drawn, Cond.instanceMethod yX11_drawn, Cond.selects RX11 yX11_drawn yX11_drawn, Cond.code yX11_drawn cX11_drawn 1 (some .int), Cond.constant RX11 461 (65537), Cond.methodLink RL 206 yX10_bestMan, Cond.instanceMethod yX10_bestMan, Cond.selects RX10 yX10_bestMan yX10_bestMan, Cond.code yX10_bestMan cX10_bestMan 7 (some .int), Cond.methodLink RX10 334 yX10_wasteByDraws, Cond.instanceMethod yX10_wasteByDraws, Cond.selects RX10 yX10_wasteByDraws yX10_wasteByDraws, Cond.code yX10_wasteByDraws cX10_wasteByDraws 6 (some .int)]
def wsL_law0_r61 : List Cond := [Cond.methodLink RL 209 yX11_bestMan, Cond.instanceMethod yX11_bestMan, Cond.selects RX11 yX11_bestMan yX11_bestMan, Cond.code yX11_bestMan cX11_bestMan 8 (some .int), Cond.constant RX11 472 (100000000), Cond.methodLink RL 210 yX10_threads, Cond.instanceMethod yX10_threads, Cond.selects RX10 yX10_threads yX10_threads, Cond.code yX10_threads cX10_threads 3 (some .boolean), Cond.methodLink RX10 337 yX10_refuseAct, Cond.instanceMethod yX10_refuseAct, Cond.selects RX10 yX10_refuseAct yX10_refuseAct, Cond.code yX10_refuseAct cX10_refuseAct 2 (some .boolean), Cond.methodLink RX10 340 yX4_keep, Cond.instanceMethod yX4_keep, Cond.selects RX4 yX4_keep yX4_keep, Cond.code yX4_keep cX4_keep 3 none, Cond.methodLink RX4 39 Lib.Math.min.name, Cond.methodLink RX4 31 yX4_slot, Cond.static yX4_slot, Cond.code yX4_slot cX4_slot 2 (some (.object "ReelChange$State")), Cond.methodLink RX4 35 yX7_copyFrom, Cond.methodLink RX10 343 yX8_put, Cond.methodLink RX10 346 yX10_actDone]
def wsL_law0_r62 : List Cond := [Cond.instanceMethod yX10_actDone, Cond.selects RX10 yX10_actDone yX10_actDone, Cond.code yX10_actDone cX10_actDone 1 (some .boolean), Cond.methodLink RL 214 yX11_threads, Cond.instanceMethod yX11_threads, Cond.selects RX11 yX11_threads yX11_threads, Cond.code yX11_threads cX11_threads 3 (some .boolean), Cond.methodLink RX11 473 yX11_isNot, Cond.instanceMethod yX11_isNot, Cond.selects RX11 yX11_isNot yX11_isNot, Cond.code yX11_isNot cX11_isNot 2 (some .boolean), Cond.methodLink RX11 476 yX11_note, Cond.instanceMethod yX11_note, Cond.selects RX11 yX11_note yX11_note, Cond.code yX11_note cX11_note 2 none, Cond.methodLink RL 215 yX10_trim, Cond.instanceMethod yX10_trim, Cond.selects RX10 yX10_trim yX10_trim, Cond.code yX10_trim cX10_trim 3 (some .boolean), Cond.methodLink RL 219 yX11_trim, Cond.instanceMethod yX11_trim, Cond.selects RX11 yX11_trim yX11_trim, Cond.code yX11_trim cX11_trim 3 (some .boolean), Cond.methodLink RL 220 yX10_mend]
def wsL_law0_r63 : List Cond := [Cond.instanceMethod yX10_mend, Cond.selects RX10 yX10_mend yX10_mend, Cond.code yX10_mend cX10_mend 3 (some .int), Cond.methodLink RX10 349 yX7_cutOut, Cond.instanceMethod yX7_cutOut, Cond.selects RX7 yX7_cutOut yX7_cutOut, Cond.code yX7_cutOut cX7_cutOut 5 none, Cond.methodLink RX7 71 yX8_put, Cond.methodLink RX7 75 yX7_sooner, Cond.static yX7_sooner, Cond.code yX7_sooner cX7_sooner 4 (some .int), Cond.methodLink RX7 83 Lib.Math.max.name, Cond.methodLink RX7 86 Lib.Math.min.name, Cond.methodLink RX7 79 yX7_pull, Cond.static yX7_pull, Cond.code yX7_pull cX7_pull 5 none, Cond.methodLink RL 223 yX11_mend, Cond.instanceMethod yX11_mend, Cond.selects RX11 yX11_mend yX11_mend, Cond.code yX11_mend cX11_mend 6 (some .int), Cond.methodLink RX11 479 yX11_shifted, Cond.static yX11_shifted, Cond.code yX11_shifted cX11_shifted 4 (some .int), Cond.methodLink RL 224 yX10_undo]
def wsL_law0_r64 : List Cond := [Cond.instanceMethod yX10_undo, Cond.selects RX10 yX10_undo yX10_undo, Cond.code yX10_undo cX10_undo 1 (some .boolean), Cond.methodLink RX10 352 yX4_takeBack, Cond.instanceMethod yX4_takeBack, Cond.selects RX4 yX4_takeBack yX4_takeBack, Cond.code yX4_takeBack cX4_takeBack 2 (some .boolean), Cond.methodLink RL 228 yX11_undo, Cond.instanceMethod yX11_undo, Cond.selects RX11 yX11_undo yX11_undo, Cond.code yX11_undo cX11_undo 1 (some .boolean), Cond.methodLink RL 229 yX10_image, Cond.instanceMethod yX10_image, Cond.selects RX10 yX10_image yX10_image, Cond.code yX10_image cX10_image 2 (some .int), Cond.methodLink RX10 356 yX4_takeImage, Cond.instanceMethod yX4_takeImage, Cond.selects RX4 yX4_takeImage yX4_takeImage, Cond.code yX4_takeImage cX4_takeImage 3 (some .int), Cond.methodLink RL 232 yX11_image, Cond.instanceMethod yX11_image, Cond.selects RX11 yX11_image yX11_image, Cond.code yX11_image cX11_image 1 (some .int), Cond.methodLink RL 233 yX10_back]
def wsL_law0_r65 : List Cond := [Cond.instanceMethod yX10_back, Cond.selects RX10 yX10_back yX10_back, Cond.code yX10_back cX10_back 2 (some .boolean), Cond.methodLink RX10 359 yX4_goBack, Cond.instanceMethod yX4_goBack, Cond.selects RX4 yX4_goBack yX4_goBack, Cond.code yX4_goBack cX4_goBack 3 (some .boolean), Cond.methodLink RL 237 yX11_back, Cond.instanceMethod yX11_back, Cond.selects RX11 yX11_back yX11_back, Cond.code yX11_back cX11_back 2 (some .boolean), Cond.methodLink RL 238 yL_led, Cond.static yL_led, Cond.initialized RL, Cond.codeWith yL_led cL_led 4 (some .int) [(0, 9, 12, 13)], Cond.classLink RL 13 "java/util/NoSuchElementException", Cond.methodLink RL 7 yX10_led, Cond.instanceMethod yX10_led, Cond.selects RX10 yX10_led yX10_led, Cond.code yX10_led cX10_led 4 (some .int), Cond.classLink RX10 363 "java/util/NoSuchElementException", Cond.initialized "java/util/NoSuchElementException", Cond.methodLink RL 243 yX11_led, Cond.instanceMethod yX11_led]
def wsL_law0_r66 : List Cond := [Cond.selects RX11 yX11_led yX11_led, Cond.code yX11_led cX11_led 4 (some .int), Cond.methodLink RL 244 yX11_thrown, Cond.instanceMethod yX11_thrown, Cond.selects RX11 yX11_thrown yX11_thrown, Cond.code yX11_thrown cX11_thrown 1 (some .int), Cond.methodLink RL 247 yX10_size, Cond.instanceMethod yX10_size, Cond.selects RX10 yX10_size yX10_size, Cond.code yX10_size cX10_size 2 (some .int), Cond.fieldLink RX10 366 "ReelChange$State" "mended" "I", Cond.fieldLink RX10 372 "ReelChange$Kept" "acts" "I", Cond.fieldLink RX10 375 "ReelChange$Kept" "imaged" "I", Cond.methodLink RX10 369 yJ6_bitCount_0f7a4, Cond.methodLink RL 250 yX11_size, Cond.instanceMethod yX11_size, Cond.selects RX11 yX11_size yX11_size, Cond.code yX11_size cX11_size 2 (some .int), Cond.methodLink RL 251 yX10_trouble, Cond.instanceMethod yX10_trouble, Cond.selects RX10 yX10_trouble yX10_trouble, Cond.code yX10_trouble cX10_trouble 1 (some .int), Cond.methodLink RL 254 yX11_trouble, Cond.instanceMethod yX11_trouble]
def wsL_law0_r67 : List Cond := [Cond.selects RX11 yX11_trouble yX11_trouble, Cond.code yX11_trouble cX11_trouble 1 (some .int)]
def wsL_law0 : List Cond := (wsL_law0_r1 ++ (wsL_law0_r2 ++ (wsL_law0_r3 ++ (wsL_law0_r4 ++ (wsL_law0_r5 ++ (wsL_law0_r6 ++ (wsL_law0_r7 ++ (wsL_law0_r8 ++ (wsL_law0_r9 ++ (wsL_law0_r10 ++ (wsL_law0_r11 ++ (wsL_law0_r12 ++ (wsL_law0_r13 ++ (wsL_law0_r14 ++ (wsL_law0_r15 ++ (wsL_law0_r16 ++ (wsL_law0_r17 ++ (wsL_law0_r18 ++ (wsL_law0_r19 ++ (wsL_law0_r20 ++ (wsL_law0_r21 ++ (wsL_law0_r22 ++ (wsL_law0_r23 ++ (wsL_law0_r24 ++ (wsL_law0_r25 ++ (wsL_law0_r26 ++ (wsL_law0_r27 ++ (wsL_law0_r28 ++ (wsL_law0_r29 ++ (wsL_law0_r30 ++ (wsL_law0_r31 ++ (wsL_law0_r32 ++ (wsL_law0_r33 ++ (wsL_law0_r34 ++ (wsL_law0_r35 ++ (wsL_law0_r36 ++ (wsL_law0_r37 ++ (wsL_law0_r38 ++ (wsL_law0_r39 ++ (wsL_law0_r40 ++ (wsL_law0_r41 ++ (wsL_law0_r42 ++ (wsL_law0_r43 ++ (wsL_law0_r44 ++ (wsL_law0_r45 ++ (wsL_law0_r46 ++ (wsL_law0_r47 ++ (wsL_law0_r48 ++ (wsL_law0_r49 ++ (wsL_law0_r50 ++ (wsL_law0_r51 ++ (wsL_law0_r52 ++ (wsL_law0_r53 ++ (wsL_law0_r54 ++ (wsL_law0_r55 ++ (wsL_law0_r56 ++ (wsL_law0_r57 ++ (wsL_law0_r58 ++ (wsL_law0_r59 ++ (wsL_law0_r60 ++ (wsL_law0_r61 ++ (wsL_law0_r62 ++ (wsL_law0_r63 ++ (wsL_law0_r64 ++ (wsL_law0_r65 ++ (wsL_law0_r66 ++ wsL_law0_r67)))))))))))))))))))))))))))))))))))))))))))))))))))))))))))))))))) ++ wsX100 ++ wsX110 ++ wsX90 ++ wsX30 ++ wsX70 ++ wsX40 ++ wsX50 ++ wsX00 ++ wsX60 ++ wsX10 ++ wsX20 ++ wsX80 ++ ([] : List Cond)
set_option maxRecDepth 20000 in
theorem gdL : GoodIn lw_tbl wsL_law0 := goodIn_p wsL_law0 [152, 155, 160, 166, 172, 178, 182, 346, 373, 413, 430, 450, 468, 1377, 513, 517, 1516, 521, 525, 529, 533, 537, 541, 547, 551, 556, 561, 565, 569, 575, 579, 582, 585, 590, 593, 596, 599, 603, 613, 617, 622, 626, 630, 634, 644, 658, 662, 666, 670, 674, 678, 687, 692, 696, 700, 704, 708, 713, 718, 723, 727, 736, 740, 745, 751, 757, 761, 765, 769, 773, 782, 786, 1520, 1524, 1527, 1531, 1535, 1539, 1542, 1545, 1549, 1554, 1560, 1564, 1569, 1573, 1577, 1581, 1585, 1595, 1599, 1603, 1607, 1621, 1628, 1633, 1637, 1641, 1645, 1649, 1654, 1659, 1668, 1672, 1676, 1680, 1686, 1692, 1695, 790, 1699, 794, 1703, 798, 802, 806, 811, 815, 1707, 1711, 1715, 1719, 1723, 1726, 1730, 821, 1734, 1738, 826, 830, 1742, 1746, 1750, 834, 1754, 838, 842, 846, 850, 856, 860, 865, 869, 873, 877, 889, 881, 885, 894, 1758, 1762, 1766, 1770, 1774, 1778, 1782, 1786, 1790, 1793, 1796, 899, 1800, 903, 1804, 907, 1808, 911, 1812, 915, 1816, 1820, 919, 1824, 923, 927, 1828, 931, 935, 1832, 1836, 939, 943, 1840, 947, 951, 1844, 955, 959, 1939, 1943, 963, 967, 1947, 971, 975, 980, 1951, 1955, 985, 1959, 989, 993, 1848, 1852, 997, 1001, 1007, 1856, 1860, 1864, 1013, 1017, 1868, 1021, 1876, 1026, 1872, 1030, 1034, 1038, 1880, 1883, 1046, 1050, 1054, 1058, 1061, 1065, 1070, 1074, 1078, 1887, 1891, 1895, 1899, 1902, 1082, 1086, 1906, 1090, 1094, 1098, 1963, 1967, 1971, 1103, 1975, 1107, 1111, 1910, 1116, 1914, 1120, 1125, 1918, 1922, 1925, 1129, 1929, 1135, 1934, 1140, 1144, 1148, 1152, 1156, 1161, 1979, 1983, 1987, 1991, 1167, 1999, 1171, 1995, 1175, 2003, 1179, 1183, 2007, 1188, 1192, 1197, 1204, 1207, 2011, 2015, 2019, 1214, 1219, 2023, 2028, 2032, 1223, 1227, 2037, 1231, 1235, 1239, 1242, 1249, 2042, 2046, 2050, 1253, 2054, 1257, 1261, 1265, 1270, 2058, 2061, 1274, 1278, 2065, 1282, 1286, 2069, 1290, 1294, 2073, 1311, 2077, 1512, 1298, 2081, 1303, 2085] (by decide +kernel) (by decide +kernel)
theorem wsL_in : ∀ w ∈ wsL_law0, w ∈ lw_tbl := fun w h => (gdL w h).1
theorem goodL : ∀ w ∈ wsL_law0, (w.onTables && w.keeps) = true ∨ ∃ ty, w = .arrayClass ty := fun w h => (gdL w h).2
theorem inlX0 : ∀ w ∈ wsX00, w ∈ wsL_law0 := fun _ h => List.mem_append_left _ (List.mem_append_left _ (List.mem_append_left _ (List.mem_append_left _ (List.mem_append_left _ (List.mem_append_right _ h)))))
theorem inlX1 : ∀ w ∈ wsX10, w ∈ wsL_law0 := fun _ h => List.mem_append_left _ (List.mem_append_left _ (List.mem_append_left _ (List.mem_append_right _ h)))
theorem inlX2 : ∀ w ∈ wsX20, w ∈ wsL_law0 := fun _ h => List.mem_append_left _ (List.mem_append_left _ (List.mem_append_right _ h))
theorem inlX3 : ∀ w ∈ wsX30, w ∈ wsL_law0 := fun _ h => List.mem_append_left _ (List.mem_append_left _ (List.mem_append_left _ (List.mem_append_left _ (List.mem_append_left _ (List.mem_append_left _ (List.mem_append_left _ (List.mem_append_left _ (List.mem_append_left _ (List.mem_append_right _ h)))))))))
theorem inlX4 : ∀ w ∈ wsX40, w ∈ wsL_law0 := fun _ h => List.mem_append_left _ (List.mem_append_left _ (List.mem_append_left _ (List.mem_append_left _ (List.mem_append_left _ (List.mem_append_left _ (List.mem_append_left _ (List.mem_append_right _ h)))))))
theorem inlX5 : ∀ w ∈ wsX50, w ∈ wsL_law0 := fun _ h => List.mem_append_left _ (List.mem_append_left _ (List.mem_append_left _ (List.mem_append_left _ (List.mem_append_left _ (List.mem_append_left _ (List.mem_append_right _ h))))))
theorem inlX6 : ∀ w ∈ wsX60, w ∈ wsL_law0 := fun _ h => List.mem_append_left _ (List.mem_append_left _ (List.mem_append_left _ (List.mem_append_left _ (List.mem_append_right _ h))))
theorem inlX7 : ∀ w ∈ wsX70, w ∈ wsL_law0 := fun _ h => List.mem_append_left _ (List.mem_append_left _ (List.mem_append_left _ (List.mem_append_left _ (List.mem_append_left _ (List.mem_append_left _ (List.mem_append_left _ (List.mem_append_left _ (List.mem_append_right _ h))))))))
theorem inlX8 : ∀ w ∈ wsX80, w ∈ wsL_law0 := fun _ h => List.mem_append_left _ (List.mem_append_right _ h)
theorem inlX9 : ∀ w ∈ wsX90, w ∈ wsL_law0 := fun _ h => List.mem_append_left _ (List.mem_append_left _ (List.mem_append_left _ (List.mem_append_left _ (List.mem_append_left _ (List.mem_append_left _ (List.mem_append_left _ (List.mem_append_left _ (List.mem_append_left _ (List.mem_append_left _ (List.mem_append_right _ h))))))))))
theorem inlX10 : ∀ w ∈ wsX100, w ∈ wsL_law0 := fun _ h => List.mem_append_left _ (List.mem_append_left _ (List.mem_append_left _ (List.mem_append_left _ (List.mem_append_left _ (List.mem_append_left _ (List.mem_append_left _ (List.mem_append_left _ (List.mem_append_left _ (List.mem_append_left _ (List.mem_append_left _ (List.mem_append_left _ (List.mem_append_right _ h))))))))))))
theorem inlX11 : ∀ w ∈ wsX110, w ∈ wsL_law0 := fun _ h => List.mem_append_left _ (List.mem_append_left _ (List.mem_append_left _ (List.mem_append_left _ (List.mem_append_left _ (List.mem_append_left _ (List.mem_append_left _ (List.mem_append_left _ (List.mem_append_left _ (List.mem_append_left _ (List.mem_append_left _ (List.mem_append_right _ h)))))))))))
abbrev vwCl : List vw_C := [(RX0, TX0, 2), (RX1, TX1, 3), (RX2, TX2, 2), (RX3, TX3, 8), (RX4, TX4, 5), (RX5, TX5, 9), (RX6, TX6, 3), (RX7, TX7, 6), (RX8, TX8, 4), (RX9, TX9, 15), (RX10, TX10, 10), (RX11, TX11, 43)]
theorem mL1 : ∀ w ∈ wsL_law0_r1, w ∈ wsL_law0 := fun _ h => List.mem_append_left _ (List.mem_append_left _ (List.mem_append_left _ (List.mem_append_left _ (List.mem_append_left _ (List.mem_append_left _ (List.mem_append_left _ (List.mem_append_left _ (List.mem_append_left _ (List.mem_append_left _ (List.mem_append_left _ (List.mem_append_left _ (List.mem_append_left _ h))))))))))))
theorem mL2 : ∀ w ∈ wsL_law0_r2, w ∈ wsL_law0 := fun _ h => List.mem_append_left _ (List.mem_append_left _ (List.mem_append_left _ (List.mem_append_left _ (List.mem_append_left _ (List.mem_append_left _ (List.mem_append_left _ (List.mem_append_left _ (List.mem_append_left _ (List.mem_append_left _ (List.mem_append_left _ (List.mem_append_left _ (List.mem_append_right _ (List.mem_append_left _ h)))))))))))))
theorem mL3 : ∀ w ∈ wsL_law0_r3, w ∈ wsL_law0 := fun _ h => List.mem_append_left _ (List.mem_append_left _ (List.mem_append_left _ (List.mem_append_left _ (List.mem_append_left _ (List.mem_append_left _ (List.mem_append_left _ (List.mem_append_left _ (List.mem_append_left _ (List.mem_append_left _ (List.mem_append_left _ (List.mem_append_left _ (List.mem_append_right _ (List.mem_append_right _ (List.mem_append_left _ h))))))))))))))
theorem mL4 : ∀ w ∈ wsL_law0_r4, w ∈ wsL_law0 := fun _ h => List.mem_append_left _ (List.mem_append_left _ (List.mem_append_left _ (List.mem_append_left _ (List.mem_append_left _ (List.mem_append_left _ (List.mem_append_left _ (List.mem_append_left _ (List.mem_append_left _ (List.mem_append_left _ (List.mem_append_left _ (List.mem_append_left _ (List.mem_append_right _ (List.mem_append_right _ (List.mem_append_right _ (List.mem_append_left _ h)))))))))))))))
theorem mL5 : ∀ w ∈ wsL_law0_r5, w ∈ wsL_law0 := fun _ h => List.mem_append_left _ (List.mem_append_left _ (List.mem_append_left _ (List.mem_append_left _ (List.mem_append_left _ (List.mem_append_left _ (List.mem_append_left _ (List.mem_append_left _ (List.mem_append_left _ (List.mem_append_left _ (List.mem_append_left _ (List.mem_append_left _ (List.mem_append_right _ (List.mem_append_right _ (List.mem_append_right _ (List.mem_append_right _ (List.mem_append_left _ h))))))))))))))))
theorem mL6 : ∀ w ∈ wsL_law0_r6, w ∈ wsL_law0 := fun _ h => List.mem_append_left _ (List.mem_append_left _ (List.mem_append_left _ (List.mem_append_left _ (List.mem_append_left _ (List.mem_append_left _ (List.mem_append_left _ (List.mem_append_left _ (List.mem_append_left _ (List.mem_append_left _ (List.mem_append_left _ (List.mem_append_left _ (List.mem_append_right _ (List.mem_append_right _ (List.mem_append_right _ (List.mem_append_right _ (List.mem_append_right _ (List.mem_append_left _ h)))))))))))))))))
theorem mL7 : ∀ w ∈ wsL_law0_r7, w ∈ wsL_law0 := fun _ h => List.mem_append_left _ (List.mem_append_left _ (List.mem_append_left _ (List.mem_append_left _ (List.mem_append_left _ (List.mem_append_left _ (List.mem_append_left _ (List.mem_append_left _ (List.mem_append_left _ (List.mem_append_left _ (List.mem_append_left _ (List.mem_append_left _ (List.mem_append_right _ (List.mem_append_right _ (List.mem_append_right _ (List.mem_append_right _ (List.mem_append_right _ (List.mem_append_right _ (List.mem_append_left _ h))))))))))))))))))
theorem mL8 : ∀ w ∈ wsL_law0_r8, w ∈ wsL_law0 := fun _ h => List.mem_append_left _ (List.mem_append_left _ (List.mem_append_left _ (List.mem_append_left _ (List.mem_append_left _ (List.mem_append_left _ (List.mem_append_left _ (List.mem_append_left _ (List.mem_append_left _ (List.mem_append_left _ (List.mem_append_left _ (List.mem_append_left _ (List.mem_append_right _ (List.mem_append_right _ (List.mem_append_right _ (List.mem_append_right _ (List.mem_append_right _ (List.mem_append_right _ (List.mem_append_right _ (List.mem_append_left _ h)))))))))))))))))))
theorem mL9 : ∀ w ∈ wsL_law0_r9, w ∈ wsL_law0 := fun _ h => List.mem_append_left _ (List.mem_append_left _ (List.mem_append_left _ (List.mem_append_left _ (List.mem_append_left _ (List.mem_append_left _ (List.mem_append_left _ (List.mem_append_left _ (List.mem_append_left _ (List.mem_append_left _ (List.mem_append_left _ (List.mem_append_left _ (List.mem_append_right _ (List.mem_append_right _ (List.mem_append_right _ (List.mem_append_right _ (List.mem_append_right _ (List.mem_append_right _ (List.mem_append_right _ (List.mem_append_right _ (List.mem_append_left _ h))))))))))))))))))))
theorem mL10 : ∀ w ∈ wsL_law0_r10, w ∈ wsL_law0 := fun _ h => List.mem_append_left _ (List.mem_append_left _ (List.mem_append_left _ (List.mem_append_left _ (List.mem_append_left _ (List.mem_append_left _ (List.mem_append_left _ (List.mem_append_left _ (List.mem_append_left _ (List.mem_append_left _ (List.mem_append_left _ (List.mem_append_left _ (List.mem_append_right _ (List.mem_append_right _ (List.mem_append_right _ (List.mem_append_right _ (List.mem_append_right _ (List.mem_append_right _ (List.mem_append_right _ (List.mem_append_right _ (List.mem_append_right _ (List.mem_append_left _ h)))))))))))))))))))))
theorem mL11 : ∀ w ∈ wsL_law0_r11, w ∈ wsL_law0 := fun _ h => List.mem_append_left _ (List.mem_append_left _ (List.mem_append_left _ (List.mem_append_left _ (List.mem_append_left _ (List.mem_append_left _ (List.mem_append_left _ (List.mem_append_left _ (List.mem_append_left _ (List.mem_append_left _ (List.mem_append_left _ (List.mem_append_left _ (List.mem_append_right _ (List.mem_append_right _ (List.mem_append_right _ (List.mem_append_right _ (List.mem_append_right _ (List.mem_append_right _ (List.mem_append_right _ (List.mem_append_right _ (List.mem_append_right _ (List.mem_append_right _ (List.mem_append_left _ h))))))))))))))))))))))
theorem mL12 : ∀ w ∈ wsL_law0_r12, w ∈ wsL_law0 := fun _ h => List.mem_append_left _ (List.mem_append_left _ (List.mem_append_left _ (List.mem_append_left _ (List.mem_append_left _ (List.mem_append_left _ (List.mem_append_left _ (List.mem_append_left _ (List.mem_append_left _ (List.mem_append_left _ (List.mem_append_left _ (List.mem_append_left _ (List.mem_append_right _ (List.mem_append_right _ (List.mem_append_right _ (List.mem_append_right _ (List.mem_append_right _ (List.mem_append_right _ (List.mem_append_right _ (List.mem_append_right _ (List.mem_append_right _ (List.mem_append_right _ (List.mem_append_right _ (List.mem_append_left _ h)))))))))))))))))))))))
theorem mL13 : ∀ w ∈ wsL_law0_r13, w ∈ wsL_law0 := fun _ h => List.mem_append_left _ (List.mem_append_left _ (List.mem_append_left _ (List.mem_append_left _ (List.mem_append_left _ (List.mem_append_left _ (List.mem_append_left _ (List.mem_append_left _ (List.mem_append_left _ (List.mem_append_left _ (List.mem_append_left _ (List.mem_append_left _ (List.mem_append_right _ (List.mem_append_right _ (List.mem_append_right _ (List.mem_append_right _ (List.mem_append_right _ (List.mem_append_right _ (List.mem_append_right _ (List.mem_append_right _ (List.mem_append_right _ (List.mem_append_right _ (List.mem_append_right _ (List.mem_append_right _ (List.mem_append_left _ h))))))))))))))))))))))))
theorem mL14 : ∀ w ∈ wsL_law0_r14, w ∈ wsL_law0 := fun _ h => List.mem_append_left _ (List.mem_append_left _ (List.mem_append_left _ (List.mem_append_left _ (List.mem_append_left _ (List.mem_append_left _ (List.mem_append_left _ (List.mem_append_left _ (List.mem_append_left _ (List.mem_append_left _ (List.mem_append_left _ (List.mem_append_left _ (List.mem_append_right _ (List.mem_append_right _ (List.mem_append_right _ (List.mem_append_right _ (List.mem_append_right _ (List.mem_append_right _ (List.mem_append_right _ (List.mem_append_right _ (List.mem_append_right _ (List.mem_append_right _ (List.mem_append_right _ (List.mem_append_right _ (List.mem_append_right _ (List.mem_append_left _ h)))))))))))))))))))))))))
theorem mL15 : ∀ w ∈ wsL_law0_r15, w ∈ wsL_law0 := fun _ h => List.mem_append_left _ (List.mem_append_left _ (List.mem_append_left _ (List.mem_append_left _ (List.mem_append_left _ (List.mem_append_left _ (List.mem_append_left _ (List.mem_append_left _ (List.mem_append_left _ (List.mem_append_left _ (List.mem_append_left _ (List.mem_append_left _ (List.mem_append_right _ (List.mem_append_right _ (List.mem_append_right _ (List.mem_append_right _ (List.mem_append_right _ (List.mem_append_right _ (List.mem_append_right _ (List.mem_append_right _ (List.mem_append_right _ (List.mem_append_right _ (List.mem_append_right _ (List.mem_append_right _ (List.mem_append_right _ (List.mem_append_right _ (List.mem_append_left _ h))))))))))))))))))))))))))
theorem mL16 : ∀ w ∈ wsL_law0_r16, w ∈ wsL_law0 := fun _ h => List.mem_append_left _ (List.mem_append_left _ (List.mem_append_left _ (List.mem_append_left _ (List.mem_append_left _ (List.mem_append_left _ (List.mem_append_left _ (List.mem_append_left _ (List.mem_append_left _ (List.mem_append_left _ (List.mem_append_left _ (List.mem_append_left _ (List.mem_append_right _ (List.mem_append_right _ (List.mem_append_right _ (List.mem_append_right _ (List.mem_append_right _ (List.mem_append_right _ (List.mem_append_right _ (List.mem_append_right _ (List.mem_append_right _ (List.mem_append_right _ (List.mem_append_right _ (List.mem_append_right _ (List.mem_append_right _ (List.mem_append_right _ (List.mem_append_right _ (List.mem_append_left _ h)))))))))))))))))))))))))))
theorem mL17 : ∀ w ∈ wsL_law0_r17, w ∈ wsL_law0 := fun _ h => List.mem_append_left _ (List.mem_append_left _ (List.mem_append_left _ (List.mem_append_left _ (List.mem_append_left _ (List.mem_append_left _ (List.mem_append_left _ (List.mem_append_left _ (List.mem_append_left _ (List.mem_append_left _ (List.mem_append_left _ (List.mem_append_left _ (List.mem_append_right _ (List.mem_append_right _ (List.mem_append_right _ (List.mem_append_right _ (List.mem_append_right _ (List.mem_append_right _ (List.mem_append_right _ (List.mem_append_right _ (List.mem_append_right _ (List.mem_append_right _ (List.mem_append_right _ (List.mem_append_right _ (List.mem_append_right _ (List.mem_append_right _ (List.mem_append_right _ (List.mem_append_right _ (List.mem_append_left _ h))))))))))))))))))))))))))))
theorem mL18 : ∀ w ∈ wsL_law0_r18, w ∈ wsL_law0 := fun _ h => List.mem_append_left _ (List.mem_append_left _ (List.mem_append_left _ (List.mem_append_left _ (List.mem_append_left _ (List.mem_append_left _ (List.mem_append_left _ (List.mem_append_left _ (List.mem_append_left _ (List.mem_append_left _ (List.mem_append_left _ (List.mem_append_left _ (List.mem_append_right _ (List.mem_append_right _ (List.mem_append_right _ (List.mem_append_right _ (List.mem_append_right _ (List.mem_append_right _ (List.mem_append_right _ (List.mem_append_right _ (List.mem_append_right _ (List.mem_append_right _ (List.mem_append_right _ (List.mem_append_right _ (List.mem_append_right _ (List.mem_append_right _ (List.mem_append_right _ (List.mem_append_right _ (List.mem_append_right _ (List.mem_append_left _ h)))))))))))))))))))))))))))))
theorem mL19 : ∀ w ∈ wsL_law0_r19, w ∈ wsL_law0 := fun _ h => List.mem_append_left _ (List.mem_append_left _ (List.mem_append_left _ (List.mem_append_left _ (List.mem_append_left _ (List.mem_append_left _ (List.mem_append_left _ (List.mem_append_left _ (List.mem_append_left _ (List.mem_append_left _ (List.mem_append_left _ (List.mem_append_left _ (List.mem_append_right _ (List.mem_append_right _ (List.mem_append_right _ (List.mem_append_right _ (List.mem_append_right _ (List.mem_append_right _ (List.mem_append_right _ (List.mem_append_right _ (List.mem_append_right _ (List.mem_append_right _ (List.mem_append_right _ (List.mem_append_right _ (List.mem_append_right _ (List.mem_append_right _ (List.mem_append_right _ (List.mem_append_right _ (List.mem_append_right _ (List.mem_append_right _ (List.mem_append_left _ h))))))))))))))))))))))))))))))
theorem mL20 : ∀ w ∈ wsL_law0_r20, w ∈ wsL_law0 := fun _ h => List.mem_append_left _ (List.mem_append_left _ (List.mem_append_left _ (List.mem_append_left _ (List.mem_append_left _ (List.mem_append_left _ (List.mem_append_left _ (List.mem_append_left _ (List.mem_append_left _ (List.mem_append_left _ (List.mem_append_left _ (List.mem_append_left _ (List.mem_append_right _ (List.mem_append_right _ (List.mem_append_right _ (List.mem_append_right _ (List.mem_append_right _ (List.mem_append_right _ (List.mem_append_right _ (List.mem_append_right _ (List.mem_append_right _ (List.mem_append_right _ (List.mem_append_right _ (List.mem_append_right _ (List.mem_append_right _ (List.mem_append_right _ (List.mem_append_right _ (List.mem_append_right _ (List.mem_append_right _ (List.mem_append_right _ (List.mem_append_right _ (List.mem_append_left _ h)))))))))))))))))))))))))))))))
theorem mL21 : ∀ w ∈ wsL_law0_r21, w ∈ wsL_law0 := fun _ h => List.mem_append_left _ (List.mem_append_left _ (List.mem_append_left _ (List.mem_append_left _ (List.mem_append_left _ (List.mem_append_left _ (List.mem_append_left _ (List.mem_append_left _ (List.mem_append_left _ (List.mem_append_left _ (List.mem_append_left _ (List.mem_append_left _ (List.mem_append_right _ (List.mem_append_right _ (List.mem_append_right _ (List.mem_append_right _ (List.mem_append_right _ (List.mem_append_right _ (List.mem_append_right _ (List.mem_append_right _ (List.mem_append_right _ (List.mem_append_right _ (List.mem_append_right _ (List.mem_append_right _ (List.mem_append_right _ (List.mem_append_right _ (List.mem_append_right _ (List.mem_append_right _ (List.mem_append_right _ (List.mem_append_right _ (List.mem_append_right _ (List.mem_append_right _ (List.mem_append_left _ h))))))))))))))))))))))))))))))))
theorem mL22 : ∀ w ∈ wsL_law0_r22, w ∈ wsL_law0 := fun _ h => List.mem_append_left _ (List.mem_append_left _ (List.mem_append_left _ (List.mem_append_left _ (List.mem_append_left _ (List.mem_append_left _ (List.mem_append_left _ (List.mem_append_left _ (List.mem_append_left _ (List.mem_append_left _ (List.mem_append_left _ (List.mem_append_left _ (List.mem_append_right _ (List.mem_append_right _ (List.mem_append_right _ (List.mem_append_right _ (List.mem_append_right _ (List.mem_append_right _ (List.mem_append_right _ (List.mem_append_right _ (List.mem_append_right _ (List.mem_append_right _ (List.mem_append_right _ (List.mem_append_right _ (List.mem_append_right _ (List.mem_append_right _ (List.mem_append_right _ (List.mem_append_right _ (List.mem_append_right _ (List.mem_append_right _ (List.mem_append_right _ (List.mem_append_right _ (List.mem_append_right _ (List.mem_append_left _ h)))))))))))))))))))))))))))))))))
theorem mL23 : ∀ w ∈ wsL_law0_r23, w ∈ wsL_law0 := fun _ h => List.mem_append_left _ (List.mem_append_left _ (List.mem_append_left _ (List.mem_append_left _ (List.mem_append_left _ (List.mem_append_left _ (List.mem_append_left _ (List.mem_append_left _ (List.mem_append_left _ (List.mem_append_left _ (List.mem_append_left _ (List.mem_append_left _ (List.mem_append_right _ (List.mem_append_right _ (List.mem_append_right _ (List.mem_append_right _ (List.mem_append_right _ (List.mem_append_right _ (List.mem_append_right _ (List.mem_append_right _ (List.mem_append_right _ (List.mem_append_right _ (List.mem_append_right _ (List.mem_append_right _ (List.mem_append_right _ (List.mem_append_right _ (List.mem_append_right _ (List.mem_append_right _ (List.mem_append_right _ (List.mem_append_right _ (List.mem_append_right _ (List.mem_append_right _ (List.mem_append_right _ (List.mem_append_right _ (List.mem_append_left _ h))))))))))))))))))))))))))))))))))
theorem mL24 : ∀ w ∈ wsL_law0_r24, w ∈ wsL_law0 := fun _ h => List.mem_append_left _ (List.mem_append_left _ (List.mem_append_left _ (List.mem_append_left _ (List.mem_append_left _ (List.mem_append_left _ (List.mem_append_left _ (List.mem_append_left _ (List.mem_append_left _ (List.mem_append_left _ (List.mem_append_left _ (List.mem_append_left _ (List.mem_append_right _ (List.mem_append_right _ (List.mem_append_right _ (List.mem_append_right _ (List.mem_append_right _ (List.mem_append_right _ (List.mem_append_right _ (List.mem_append_right _ (List.mem_append_right _ (List.mem_append_right _ (List.mem_append_right _ (List.mem_append_right _ (List.mem_append_right _ (List.mem_append_right _ (List.mem_append_right _ (List.mem_append_right _ (List.mem_append_right _ (List.mem_append_right _ (List.mem_append_right _ (List.mem_append_right _ (List.mem_append_right _ (List.mem_append_right _ (List.mem_append_right _ (List.mem_append_left _ h)))))))))))))))))))))))))))))))))))
theorem mL25 : ∀ w ∈ wsL_law0_r25, w ∈ wsL_law0 := fun _ h => List.mem_append_left _ (List.mem_append_left _ (List.mem_append_left _ (List.mem_append_left _ (List.mem_append_left _ (List.mem_append_left _ (List.mem_append_left _ (List.mem_append_left _ (List.mem_append_left _ (List.mem_append_left _ (List.mem_append_left _ (List.mem_append_left _ (List.mem_append_right _ (List.mem_append_right _ (List.mem_append_right _ (List.mem_append_right _ (List.mem_append_right _ (List.mem_append_right _ (List.mem_append_right _ (List.mem_append_right _ (List.mem_append_right _ (List.mem_append_right _ (List.mem_append_right _ (List.mem_append_right _ (List.mem_append_right _ (List.mem_append_right _ (List.mem_append_right _ (List.mem_append_right _ (List.mem_append_right _ (List.mem_append_right _ (List.mem_append_right _ (List.mem_append_right _ (List.mem_append_right _ (List.mem_append_right _ (List.mem_append_right _ (List.mem_append_right _ (List.mem_append_left _ h))))))))))))))))))))))))))))))))))))
theorem mL26 : ∀ w ∈ wsL_law0_r26, w ∈ wsL_law0 := fun _ h => List.mem_append_left _ (List.mem_append_left _ (List.mem_append_left _ (List.mem_append_left _ (List.mem_append_left _ (List.mem_append_left _ (List.mem_append_left _ (List.mem_append_left _ (List.mem_append_left _ (List.mem_append_left _ (List.mem_append_left _ (List.mem_append_left _ (List.mem_append_right _ (List.mem_append_right _ (List.mem_append_right _ (List.mem_append_right _ (List.mem_append_right _ (List.mem_append_right _ (List.mem_append_right _ (List.mem_append_right _ (List.mem_append_right _ (List.mem_append_right _ (List.mem_append_right _ (List.mem_append_right _ (List.mem_append_right _ (List.mem_append_right _ (List.mem_append_right _ (List.mem_append_right _ (List.mem_append_right _ (List.mem_append_right _ (List.mem_append_right _ (List.mem_append_right _ (List.mem_append_right _ (List.mem_append_right _ (List.mem_append_right _ (List.mem_append_right _ (List.mem_append_right _ (List.mem_append_left _ h)))))))))))))))))))))))))))))))))))))
theorem mL27 : ∀ w ∈ wsL_law0_r27, w ∈ wsL_law0 := fun _ h => List.mem_append_left _ (List.mem_append_left _ (List.mem_append_left _ (List.mem_append_left _ (List.mem_append_left _ (List.mem_append_left _ (List.mem_append_left _ (List.mem_append_left _ (List.mem_append_left _ (List.mem_append_left _ (List.mem_append_left _ (List.mem_append_left _ (List.mem_append_right _ (List.mem_append_right _ (List.mem_append_right _ (List.mem_append_right _ (List.mem_append_right _ (List.mem_append_right _ (List.mem_append_right _ (List.mem_append_right _ (List.mem_append_right _ (List.mem_append_right _ (List.mem_append_right _ (List.mem_append_right _ (List.mem_append_right _ (List.mem_append_right _ (List.mem_append_right _ (List.mem_append_right _ (List.mem_append_right _ (List.mem_append_right _ (List.mem_append_right _ (List.mem_append_right _ (List.mem_append_right _ (List.mem_append_right _ (List.mem_append_right _ (List.mem_append_right _ (List.mem_append_right _ (List.mem_append_right _ (List.mem_append_left _ h))))))))))))))))))))))))))))))))))))))
theorem mL28 : ∀ w ∈ wsL_law0_r28, w ∈ wsL_law0 := fun _ h => List.mem_append_left _ (List.mem_append_left _ (List.mem_append_left _ (List.mem_append_left _ (List.mem_append_left _ (List.mem_append_left _ (List.mem_append_left _ (List.mem_append_left _ (List.mem_append_left _ (List.mem_append_left _ (List.mem_append_left _ (List.mem_append_left _ (List.mem_append_right _ (List.mem_append_right _ (List.mem_append_right _ (List.mem_append_right _ (List.mem_append_right _ (List.mem_append_right _ (List.mem_append_right _ (List.mem_append_right _ (List.mem_append_right _ (List.mem_append_right _ (List.mem_append_right _ (List.mem_append_right _ (List.mem_append_right _ (List.mem_append_right _ (List.mem_append_right _ (List.mem_append_right _ (List.mem_append_right _ (List.mem_append_right _ (List.mem_append_right _ (List.mem_append_right _ (List.mem_append_right _ (List.mem_append_right _ (List.mem_append_right _ (List.mem_append_right _ (List.mem_append_right _ (List.mem_append_right _ (List.mem_append_right _ (List.mem_append_left _ h)))))))))))))))))))))))))))))))))))))))
theorem mL29 : ∀ w ∈ wsL_law0_r29, w ∈ wsL_law0 := fun _ h => List.mem_append_left _ (List.mem_append_left _ (List.mem_append_left _ (List.mem_append_left _ (List.mem_append_left _ (List.mem_append_left _ (List.mem_append_left _ (List.mem_append_left _ (List.mem_append_left _ (List.mem_append_left _ (List.mem_append_left _ (List.mem_append_left _ (List.mem_append_right _ (List.mem_append_right _ (List.mem_append_right _ (List.mem_append_right _ (List.mem_append_right _ (List.mem_append_right _ (List.mem_append_right _ (List.mem_append_right _ (List.mem_append_right _ (List.mem_append_right _ (List.mem_append_right _ (List.mem_append_right _ (List.mem_append_right _ (List.mem_append_right _ (List.mem_append_right _ (List.mem_append_right _ (List.mem_append_right _ (List.mem_append_right _ (List.mem_append_right _ (List.mem_append_right _ (List.mem_append_right _ (List.mem_append_right _ (List.mem_append_right _ (List.mem_append_right _ (List.mem_append_right _ (List.mem_append_right _ (List.mem_append_right _ (List.mem_append_right _ (List.mem_append_left _ h))))))))))))))))))))))))))))))))))))))))
theorem mL30 : ∀ w ∈ wsL_law0_r30, w ∈ wsL_law0 := fun _ h => List.mem_append_left _ (List.mem_append_left _ (List.mem_append_left _ (List.mem_append_left _ (List.mem_append_left _ (List.mem_append_left _ (List.mem_append_left _ (List.mem_append_left _ (List.mem_append_left _ (List.mem_append_left _ (List.mem_append_left _ (List.mem_append_left _ (List.mem_append_right _ (List.mem_append_right _ (List.mem_append_right _ (List.mem_append_right _ (List.mem_append_right _ (List.mem_append_right _ (List.mem_append_right _ (List.mem_append_right _ (List.mem_append_right _ (List.mem_append_right _ (List.mem_append_right _ (List.mem_append_right _ (List.mem_append_right _ (List.mem_append_right _ (List.mem_append_right _ (List.mem_append_right _ (List.mem_append_right _ (List.mem_append_right _ (List.mem_append_right _ (List.mem_append_right _ (List.mem_append_right _ (List.mem_append_right _ (List.mem_append_right _ (List.mem_append_right _ (List.mem_append_right _ (List.mem_append_right _ (List.mem_append_right _ (List.mem_append_right _ (List.mem_append_right _ (List.mem_append_left _ h)))))))))))))))))))))))))))))))))))))))))
theorem mL31 : ∀ w ∈ wsL_law0_r31, w ∈ wsL_law0 := fun _ h => List.mem_append_left _ (List.mem_append_left _ (List.mem_append_left _ (List.mem_append_left _ (List.mem_append_left _ (List.mem_append_left _ (List.mem_append_left _ (List.mem_append_left _ (List.mem_append_left _ (List.mem_append_left _ (List.mem_append_left _ (List.mem_append_left _ (List.mem_append_right _ (List.mem_append_right _ (List.mem_append_right _ (List.mem_append_right _ (List.mem_append_right _ (List.mem_append_right _ (List.mem_append_right _ (List.mem_append_right _ (List.mem_append_right _ (List.mem_append_right _ (List.mem_append_right _ (List.mem_append_right _ (List.mem_append_right _ (List.mem_append_right _ (List.mem_append_right _ (List.mem_append_right _ (List.mem_append_right _ (List.mem_append_right _ (List.mem_append_right _ (List.mem_append_right _ (List.mem_append_right _ (List.mem_append_right _ (List.mem_append_right _ (List.mem_append_right _ (List.mem_append_right _ (List.mem_append_right _ (List.mem_append_right _ (List.mem_append_right _ (List.mem_append_right _ (List.mem_append_right _ (List.mem_append_left _ h))))))))))))))))))))))))))))))))))))))))))
theorem mL32 : ∀ w ∈ wsL_law0_r32, w ∈ wsL_law0 := fun _ h => List.mem_append_left _ (List.mem_append_left _ (List.mem_append_left _ (List.mem_append_left _ (List.mem_append_left _ (List.mem_append_left _ (List.mem_append_left _ (List.mem_append_left _ (List.mem_append_left _ (List.mem_append_left _ (List.mem_append_left _ (List.mem_append_left _ (List.mem_append_right _ (List.mem_append_right _ (List.mem_append_right _ (List.mem_append_right _ (List.mem_append_right _ (List.mem_append_right _ (List.mem_append_right _ (List.mem_append_right _ (List.mem_append_right _ (List.mem_append_right _ (List.mem_append_right _ (List.mem_append_right _ (List.mem_append_right _ (List.mem_append_right _ (List.mem_append_right _ (List.mem_append_right _ (List.mem_append_right _ (List.mem_append_right _ (List.mem_append_right _ (List.mem_append_right _ (List.mem_append_right _ (List.mem_append_right _ (List.mem_append_right _ (List.mem_append_right _ (List.mem_append_right _ (List.mem_append_right _ (List.mem_append_right _ (List.mem_append_right _ (List.mem_append_right _ (List.mem_append_right _ (List.mem_append_right _ (List.mem_append_left _ h)))))))))))))))))))))))))))))))))))))))))))
theorem mL33 : ∀ w ∈ wsL_law0_r33, w ∈ wsL_law0 := fun _ h => List.mem_append_left _ (List.mem_append_left _ (List.mem_append_left _ (List.mem_append_left _ (List.mem_append_left _ (List.mem_append_left _ (List.mem_append_left _ (List.mem_append_left _ (List.mem_append_left _ (List.mem_append_left _ (List.mem_append_left _ (List.mem_append_left _ (List.mem_append_right _ (List.mem_append_right _ (List.mem_append_right _ (List.mem_append_right _ (List.mem_append_right _ (List.mem_append_right _ (List.mem_append_right _ (List.mem_append_right _ (List.mem_append_right _ (List.mem_append_right _ (List.mem_append_right _ (List.mem_append_right _ (List.mem_append_right _ (List.mem_append_right _ (List.mem_append_right _ (List.mem_append_right _ (List.mem_append_right _ (List.mem_append_right _ (List.mem_append_right _ (List.mem_append_right _ (List.mem_append_right _ (List.mem_append_right _ (List.mem_append_right _ (List.mem_append_right _ (List.mem_append_right _ (List.mem_append_right _ (List.mem_append_right _ (List.mem_append_right _ (List.mem_append_right _ (List.mem_append_right _ (List.mem_append_right _ (List.mem_append_right _ (List.mem_append_left _ h))))))))))))))))))))))))))))))))))))))))))))
theorem mL34 : ∀ w ∈ wsL_law0_r34, w ∈ wsL_law0 := fun _ h => List.mem_append_left _ (List.mem_append_left _ (List.mem_append_left _ (List.mem_append_left _ (List.mem_append_left _ (List.mem_append_left _ (List.mem_append_left _ (List.mem_append_left _ (List.mem_append_left _ (List.mem_append_left _ (List.mem_append_left _ (List.mem_append_left _ (List.mem_append_right _ (List.mem_append_right _ (List.mem_append_right _ (List.mem_append_right _ (List.mem_append_right _ (List.mem_append_right _ (List.mem_append_right _ (List.mem_append_right _ (List.mem_append_right _ (List.mem_append_right _ (List.mem_append_right _ (List.mem_append_right _ (List.mem_append_right _ (List.mem_append_right _ (List.mem_append_right _ (List.mem_append_right _ (List.mem_append_right _ (List.mem_append_right _ (List.mem_append_right _ (List.mem_append_right _ (List.mem_append_right _ (List.mem_append_right _ (List.mem_append_right _ (List.mem_append_right _ (List.mem_append_right _ (List.mem_append_right _ (List.mem_append_right _ (List.mem_append_right _ (List.mem_append_right _ (List.mem_append_right _ (List.mem_append_right _ (List.mem_append_right _ (List.mem_append_right _ (List.mem_append_left _ h)))))))))))))))))))))))))))))))))))))))))))))
theorem mL35 : ∀ w ∈ wsL_law0_r35, w ∈ wsL_law0 := fun _ h => List.mem_append_left _ (List.mem_append_left _ (List.mem_append_left _ (List.mem_append_left _ (List.mem_append_left _ (List.mem_append_left _ (List.mem_append_left _ (List.mem_append_left _ (List.mem_append_left _ (List.mem_append_left _ (List.mem_append_left _ (List.mem_append_left _ (List.mem_append_right _ (List.mem_append_right _ (List.mem_append_right _ (List.mem_append_right _ (List.mem_append_right _ (List.mem_append_right _ (List.mem_append_right _ (List.mem_append_right _ (List.mem_append_right _ (List.mem_append_right _ (List.mem_append_right _ (List.mem_append_right _ (List.mem_append_right _ (List.mem_append_right _ (List.mem_append_right _ (List.mem_append_right _ (List.mem_append_right _ (List.mem_append_right _ (List.mem_append_right _ (List.mem_append_right _ (List.mem_append_right _ (List.mem_append_right _ (List.mem_append_right _ (List.mem_append_right _ (List.mem_append_right _ (List.mem_append_right _ (List.mem_append_right _ (List.mem_append_right _ (List.mem_append_right _ (List.mem_append_right _ (List.mem_append_right _ (List.mem_append_right _ (List.mem_append_right _ (List.mem_append_right _ (List.mem_append_left _ h))))))))))))))))))))))))))))))))))))))))))))))
theorem mL36 : ∀ w ∈ wsL_law0_r36, w ∈ wsL_law0 := fun _ h => List.mem_append_left _ (List.mem_append_left _ (List.mem_append_left _ (List.mem_append_left _ (List.mem_append_left _ (List.mem_append_left _ (List.mem_append_left _ (List.mem_append_left _ (List.mem_append_left _ (List.mem_append_left _ (List.mem_append_left _ (List.mem_append_left _ (List.mem_append_right _ (List.mem_append_right _ (List.mem_append_right _ (List.mem_append_right _ (List.mem_append_right _ (List.mem_append_right _ (List.mem_append_right _ (List.mem_append_right _ (List.mem_append_right _ (List.mem_append_right _ (List.mem_append_right _ (List.mem_append_right _ (List.mem_append_right _ (List.mem_append_right _ (List.mem_append_right _ (List.mem_append_right _ (List.mem_append_right _ (List.mem_append_right _ (List.mem_append_right _ (List.mem_append_right _ (List.mem_append_right _ (List.mem_append_right _ (List.mem_append_right _ (List.mem_append_right _ (List.mem_append_right _ (List.mem_append_right _ (List.mem_append_right _ (List.mem_append_right _ (List.mem_append_right _ (List.mem_append_right _ (List.mem_append_right _ (List.mem_append_right _ (List.mem_append_right _ (List.mem_append_right _ (List.mem_append_right _ (List.mem_append_left _ h)))))))))))))))))))))))))))))))))))))))))))))))
theorem mL37 : ∀ w ∈ wsL_law0_r37, w ∈ wsL_law0 := fun _ h => List.mem_append_left _ (List.mem_append_left _ (List.mem_append_left _ (List.mem_append_left _ (List.mem_append_left _ (List.mem_append_left _ (List.mem_append_left _ (List.mem_append_left _ (List.mem_append_left _ (List.mem_append_left _ (List.mem_append_left _ (List.mem_append_left _ (List.mem_append_right _ (List.mem_append_right _ (List.mem_append_right _ (List.mem_append_right _ (List.mem_append_right _ (List.mem_append_right _ (List.mem_append_right _ (List.mem_append_right _ (List.mem_append_right _ (List.mem_append_right _ (List.mem_append_right _ (List.mem_append_right _ (List.mem_append_right _ (List.mem_append_right _ (List.mem_append_right _ (List.mem_append_right _ (List.mem_append_right _ (List.mem_append_right _ (List.mem_append_right _ (List.mem_append_right _ (List.mem_append_right _ (List.mem_append_right _ (List.mem_append_right _ (List.mem_append_right _ (List.mem_append_right _ (List.mem_append_right _ (List.mem_append_right _ (List.mem_append_right _ (List.mem_append_right _ (List.mem_append_right _ (List.mem_append_right _ (List.mem_append_right _ (List.mem_append_right _ (List.mem_append_right _ (List.mem_append_right _ (List.mem_append_right _ (List.mem_append_left _ h))))))))))))))))))))))))))))))))))))))))))))))))
theorem mL38 : ∀ w ∈ wsL_law0_r38, w ∈ wsL_law0 := fun _ h => List.mem_append_left _ (List.mem_append_left _ (List.mem_append_left _ (List.mem_append_left _ (List.mem_append_left _ (List.mem_append_left _ (List.mem_append_left _ (List.mem_append_left _ (List.mem_append_left _ (List.mem_append_left _ (List.mem_append_left _ (List.mem_append_left _ (List.mem_append_right _ (List.mem_append_right _ (List.mem_append_right _ (List.mem_append_right _ (List.mem_append_right _ (List.mem_append_right _ (List.mem_append_right _ (List.mem_append_right _ (List.mem_append_right _ (List.mem_append_right _ (List.mem_append_right _ (List.mem_append_right _ (List.mem_append_right _ (List.mem_append_right _ (List.mem_append_right _ (List.mem_append_right _ (List.mem_append_right _ (List.mem_append_right _ (List.mem_append_right _ (List.mem_append_right _ (List.mem_append_right _ (List.mem_append_right _ (List.mem_append_right _ (List.mem_append_right _ (List.mem_append_right _ (List.mem_append_right _ (List.mem_append_right _ (List.mem_append_right _ (List.mem_append_right _ (List.mem_append_right _ (List.mem_append_right _ (List.mem_append_right _ (List.mem_append_right _ (List.mem_append_right _ (List.mem_append_right _ (List.mem_append_right _ (List.mem_append_right _ (List.mem_append_left _ h)))))))))))))))))))))))))))))))))))))))))))))))))
theorem mL39 : ∀ w ∈ wsL_law0_r39, w ∈ wsL_law0 := fun _ h => List.mem_append_left _ (List.mem_append_left _ (List.mem_append_left _ (List.mem_append_left _ (List.mem_append_left _ (List.mem_append_left _ (List.mem_append_left _ (List.mem_append_left _ (List.mem_append_left _ (List.mem_append_left _ (List.mem_append_left _ (List.mem_append_left _ (List.mem_append_right _ (List.mem_append_right _ (List.mem_append_right _ (List.mem_append_right _ (List.mem_append_right _ (List.mem_append_right _ (List.mem_append_right _ (List.mem_append_right _ (List.mem_append_right _ (List.mem_append_right _ (List.mem_append_right _ (List.mem_append_right _ (List.mem_append_right _ (List.mem_append_right _ (List.mem_append_right _ (List.mem_append_right _ (List.mem_append_right _ (List.mem_append_right _ (List.mem_append_right _ (List.mem_append_right _ (List.mem_append_right _ (List.mem_append_right _ (List.mem_append_right _ (List.mem_append_right _ (List.mem_append_right _ (List.mem_append_right _ (List.mem_append_right _ (List.mem_append_right _ (List.mem_append_right _ (List.mem_append_right _ (List.mem_append_right _ (List.mem_append_right _ (List.mem_append_right _ (List.mem_append_right _ (List.mem_append_right _ (List.mem_append_right _ (List.mem_append_right _ (List.mem_append_right _ (List.mem_append_left _ h))))))))))))))))))))))))))))))))))))))))))))))))))
theorem mL40 : ∀ w ∈ wsL_law0_r40, w ∈ wsL_law0 := fun _ h => List.mem_append_left _ (List.mem_append_left _ (List.mem_append_left _ (List.mem_append_left _ (List.mem_append_left _ (List.mem_append_left _ (List.mem_append_left _ (List.mem_append_left _ (List.mem_append_left _ (List.mem_append_left _ (List.mem_append_left _ (List.mem_append_left _ (List.mem_append_right _ (List.mem_append_right _ (List.mem_append_right _ (List.mem_append_right _ (List.mem_append_right _ (List.mem_append_right _ (List.mem_append_right _ (List.mem_append_right _ (List.mem_append_right _ (List.mem_append_right _ (List.mem_append_right _ (List.mem_append_right _ (List.mem_append_right _ (List.mem_append_right _ (List.mem_append_right _ (List.mem_append_right _ (List.mem_append_right _ (List.mem_append_right _ (List.mem_append_right _ (List.mem_append_right _ (List.mem_append_right _ (List.mem_append_right _ (List.mem_append_right _ (List.mem_append_right _ (List.mem_append_right _ (List.mem_append_right _ (List.mem_append_right _ (List.mem_append_right _ (List.mem_append_right _ (List.mem_append_right _ (List.mem_append_right _ (List.mem_append_right _ (List.mem_append_right _ (List.mem_append_right _ (List.mem_append_right _ (List.mem_append_right _ (List.mem_append_right _ (List.mem_append_right _ (List.mem_append_right _ (List.mem_append_left _ h)))))))))))))))))))))))))))))))))))))))))))))))))))
theorem mL41 : ∀ w ∈ wsL_law0_r41, w ∈ wsL_law0 := fun _ h => List.mem_append_left _ (List.mem_append_left _ (List.mem_append_left _ (List.mem_append_left _ (List.mem_append_left _ (List.mem_append_left _ (List.mem_append_left _ (List.mem_append_left _ (List.mem_append_left _ (List.mem_append_left _ (List.mem_append_left _ (List.mem_append_left _ (List.mem_append_right _ (List.mem_append_right _ (List.mem_append_right _ (List.mem_append_right _ (List.mem_append_right _ (List.mem_append_right _ (List.mem_append_right _ (List.mem_append_right _ (List.mem_append_right _ (List.mem_append_right _ (List.mem_append_right _ (List.mem_append_right _ (List.mem_append_right _ (List.mem_append_right _ (List.mem_append_right _ (List.mem_append_right _ (List.mem_append_right _ (List.mem_append_right _ (List.mem_append_right _ (List.mem_append_right _ (List.mem_append_right _ (List.mem_append_right _ (List.mem_append_right _ (List.mem_append_right _ (List.mem_append_right _ (List.mem_append_right _ (List.mem_append_right _ (List.mem_append_right _ (List.mem_append_right _ (List.mem_append_right _ (List.mem_append_right _ (List.mem_append_right _ (List.mem_append_right _ (List.mem_append_right _ (List.mem_append_right _ (List.mem_append_right _ (List.mem_append_right _ (List.mem_append_right _ (List.mem_append_right _ (List.mem_append_right _ (List.mem_append_left _ h))))))))))))))))))))))))))))))))))))))))))))))))))))
theorem mL42 : ∀ w ∈ wsL_law0_r42, w ∈ wsL_law0 := fun _ h => List.mem_append_left _ (List.mem_append_left _ (List.mem_append_left _ (List.mem_append_left _ (List.mem_append_left _ (List.mem_append_left _ (List.mem_append_left _ (List.mem_append_left _ (List.mem_append_left _ (List.mem_append_left _ (List.mem_append_left _ (List.mem_append_left _ (List.mem_append_right _ (List.mem_append_right _ (List.mem_append_right _ (List.mem_append_right _ (List.mem_append_right _ (List.mem_append_right _ (List.mem_append_right _ (List.mem_append_right _ (List.mem_append_right _ (List.mem_append_right _ (List.mem_append_right _ (List.mem_append_right _ (List.mem_append_right _ (List.mem_append_right _ (List.mem_append_right _ (List.mem_append_right _ (List.mem_append_right _ (List.mem_append_right _ (List.mem_append_right _ (List.mem_append_right _ (List.mem_append_right _ (List.mem_append_right _ (List.mem_append_right _ (List.mem_append_right _ (List.mem_append_right _ (List.mem_append_right _ (List.mem_append_right _ (List.mem_append_right _ (List.mem_append_right _ (List.mem_append_right _ (List.mem_append_right _ (List.mem_append_right _ (List.mem_append_right _ (List.mem_append_right _ (List.mem_append_right _ (List.mem_append_right _ (List.mem_append_right _ (List.mem_append_right _ (List.mem_append_right _ (List.mem_append_right _ (List.mem_append_right _ (List.mem_append_left _ h)))))))))))))))))))))))))))))))))))))))))))))))))))))
theorem mL43 : ∀ w ∈ wsL_law0_r43, w ∈ wsL_law0 := fun _ h => List.mem_append_left _ (List.mem_append_left _ (List.mem_append_left _ (List.mem_append_left _ (List.mem_append_left _ (List.mem_append_left _ (List.mem_append_left _ (List.mem_append_left _ (List.mem_append_left _ (List.mem_append_left _ (List.mem_append_left _ (List.mem_append_left _ (List.mem_append_right _ (List.mem_append_right _ (List.mem_append_right _ (List.mem_append_right _ (List.mem_append_right _ (List.mem_append_right _ (List.mem_append_right _ (List.mem_append_right _ (List.mem_append_right _ (List.mem_append_right _ (List.mem_append_right _ (List.mem_append_right _ (List.mem_append_right _ (List.mem_append_right _ (List.mem_append_right _ (List.mem_append_right _ (List.mem_append_right _ (List.mem_append_right _ (List.mem_append_right _ (List.mem_append_right _ (List.mem_append_right _ (List.mem_append_right _ (List.mem_append_right _ (List.mem_append_right _ (List.mem_append_right _ (List.mem_append_right _ (List.mem_append_right _ (List.mem_append_right _ (List.mem_append_right _ (List.mem_append_right _ (List.mem_append_right _ (List.mem_append_right _ (List.mem_append_right _ (List.mem_append_right _ (List.mem_append_right _ (List.mem_append_right _ (List.mem_append_right _ (List.mem_append_right _ (List.mem_append_right _ (List.mem_append_right _ (List.mem_append_right _ (List.mem_append_right _ (List.mem_append_left _ h))))))))))))))))))))))))))))))))))))))))))))))))))))))
theorem mL44 : ∀ w ∈ wsL_law0_r44, w ∈ wsL_law0 := fun _ h => List.mem_append_left _ (List.mem_append_left _ (List.mem_append_left _ (List.mem_append_left _ (List.mem_append_left _ (List.mem_append_left _ (List.mem_append_left _ (List.mem_append_left _ (List.mem_append_left _ (List.mem_append_left _ (List.mem_append_left _ (List.mem_append_left _ (List.mem_append_right _ (List.mem_append_right _ (List.mem_append_right _ (List.mem_append_right _ (List.mem_append_right _ (List.mem_append_right _ (List.mem_append_right _ (List.mem_append_right _ (List.mem_append_right _ (List.mem_append_right _ (List.mem_append_right _ (List.mem_append_right _ (List.mem_append_right _ (List.mem_append_right _ (List.mem_append_right _ (List.mem_append_right _ (List.mem_append_right _ (List.mem_append_right _ (List.mem_append_right _ (List.mem_append_right _ (List.mem_append_right _ (List.mem_append_right _ (List.mem_append_right _ (List.mem_append_right _ (List.mem_append_right _ (List.mem_append_right _ (List.mem_append_right _ (List.mem_append_right _ (List.mem_append_right _ (List.mem_append_right _ (List.mem_append_right _ (List.mem_append_right _ (List.mem_append_right _ (List.mem_append_right _ (List.mem_append_right _ (List.mem_append_right _ (List.mem_append_right _ (List.mem_append_right _ (List.mem_append_right _ (List.mem_append_right _ (List.mem_append_right _ (List.mem_append_right _ (List.mem_append_right _ (List.mem_append_left _ h)))))))))))))))))))))))))))))))))))))))))))))))))))))))
theorem mL45 : ∀ w ∈ wsL_law0_r45, w ∈ wsL_law0 := fun _ h => List.mem_append_left _ (List.mem_append_left _ (List.mem_append_left _ (List.mem_append_left _ (List.mem_append_left _ (List.mem_append_left _ (List.mem_append_left _ (List.mem_append_left _ (List.mem_append_left _ (List.mem_append_left _ (List.mem_append_left _ (List.mem_append_left _ (List.mem_append_right _ (List.mem_append_right _ (List.mem_append_right _ (List.mem_append_right _ (List.mem_append_right _ (List.mem_append_right _ (List.mem_append_right _ (List.mem_append_right _ (List.mem_append_right _ (List.mem_append_right _ (List.mem_append_right _ (List.mem_append_right _ (List.mem_append_right _ (List.mem_append_right _ (List.mem_append_right _ (List.mem_append_right _ (List.mem_append_right _ (List.mem_append_right _ (List.mem_append_right _ (List.mem_append_right _ (List.mem_append_right _ (List.mem_append_right _ (List.mem_append_right _ (List.mem_append_right _ (List.mem_append_right _ (List.mem_append_right _ (List.mem_append_right _ (List.mem_append_right _ (List.mem_append_right _ (List.mem_append_right _ (List.mem_append_right _ (List.mem_append_right _ (List.mem_append_right _ (List.mem_append_right _ (List.mem_append_right _ (List.mem_append_right _ (List.mem_append_right _ (List.mem_append_right _ (List.mem_append_right _ (List.mem_append_right _ (List.mem_append_right _ (List.mem_append_right _ (List.mem_append_right _ (List.mem_append_right _ (List.mem_append_left _ h))))))))))))))))))))))))))))))))))))))))))))))))))))))))
theorem mL46 : ∀ w ∈ wsL_law0_r46, w ∈ wsL_law0 := fun _ h => List.mem_append_left _ (List.mem_append_left _ (List.mem_append_left _ (List.mem_append_left _ (List.mem_append_left _ (List.mem_append_left _ (List.mem_append_left _ (List.mem_append_left _ (List.mem_append_left _ (List.mem_append_left _ (List.mem_append_left _ (List.mem_append_left _ (List.mem_append_right _ (List.mem_append_right _ (List.mem_append_right _ (List.mem_append_right _ (List.mem_append_right _ (List.mem_append_right _ (List.mem_append_right _ (List.mem_append_right _ (List.mem_append_right _ (List.mem_append_right _ (List.mem_append_right _ (List.mem_append_right _ (List.mem_append_right _ (List.mem_append_right _ (List.mem_append_right _ (List.mem_append_right _ (List.mem_append_right _ (List.mem_append_right _ (List.mem_append_right _ (List.mem_append_right _ (List.mem_append_right _ (List.mem_append_right _ (List.mem_append_right _ (List.mem_append_right _ (List.mem_append_right _ (List.mem_append_right _ (List.mem_append_right _ (List.mem_append_right _ (List.mem_append_right _ (List.mem_append_right _ (List.mem_append_right _ (List.mem_append_right _ (List.mem_append_right _ (List.mem_append_right _ (List.mem_append_right _ (List.mem_append_right _ (List.mem_append_right _ (List.mem_append_right _ (List.mem_append_right _ (List.mem_append_right _ (List.mem_append_right _ (List.mem_append_right _ (List.mem_append_right _ (List.mem_append_right _ (List.mem_append_right _ (List.mem_append_left _ h)))))))))))))))))))))))))))))))))))))))))))))))))))))))))
theorem mL47 : ∀ w ∈ wsL_law0_r47, w ∈ wsL_law0 := fun _ h => List.mem_append_left _ (List.mem_append_left _ (List.mem_append_left _ (List.mem_append_left _ (List.mem_append_left _ (List.mem_append_left _ (List.mem_append_left _ (List.mem_append_left _ (List.mem_append_left _ (List.mem_append_left _ (List.mem_append_left _ (List.mem_append_left _ (List.mem_append_right _ (List.mem_append_right _ (List.mem_append_right _ (List.mem_append_right _ (List.mem_append_right _ (List.mem_append_right _ (List.mem_append_right _ (List.mem_append_right _ (List.mem_append_right _ (List.mem_append_right _ (List.mem_append_right _ (List.mem_append_right _ (List.mem_append_right _ (List.mem_append_right _ (List.mem_append_right _ (List.mem_append_right _ (List.mem_append_right _ (List.mem_append_right _ (List.mem_append_right _ (List.mem_append_right _ (List.mem_append_right _ (List.mem_append_right _ (List.mem_append_right _ (List.mem_append_right _ (List.mem_append_right _ (List.mem_append_right _ (List.mem_append_right _ (List.mem_append_right _ (List.mem_append_right _ (List.mem_append_right _ (List.mem_append_right _ (List.mem_append_right _ (List.mem_append_right _ (List.mem_append_right _ (List.mem_append_right _ (List.mem_append_right _ (List.mem_append_right _ (List.mem_append_right _ (List.mem_append_right _ (List.mem_append_right _ (List.mem_append_right _ (List.mem_append_right _ (List.mem_append_right _ (List.mem_append_right _ (List.mem_append_right _ (List.mem_append_right _ (List.mem_append_left _ h))))))))))))))))))))))))))))))))))))))))))))))))))))))))))
theorem mL48 : ∀ w ∈ wsL_law0_r48, w ∈ wsL_law0 := fun _ h => List.mem_append_left _ (List.mem_append_left _ (List.mem_append_left _ (List.mem_append_left _ (List.mem_append_left _ (List.mem_append_left _ (List.mem_append_left _ (List.mem_append_left _ (List.mem_append_left _ (List.mem_append_left _ (List.mem_append_left _ (List.mem_append_left _ (List.mem_append_right _ (List.mem_append_right _ (List.mem_append_right _ (List.mem_append_right _ (List.mem_append_right _ (List.mem_append_right _ (List.mem_append_right _ (List.mem_append_right _ (List.mem_append_right _ (List.mem_append_right _ (List.mem_append_right _ (List.mem_append_right _ (List.mem_append_right _ (List.mem_append_right _ (List.mem_append_right _ (List.mem_append_right _ (List.mem_append_right _ (List.mem_append_right _ (List.mem_append_right _ (List.mem_append_right _ (List.mem_append_right _ (List.mem_append_right _ (List.mem_append_right _ (List.mem_append_right _ (List.mem_append_right _ (List.mem_append_right _ (List.mem_append_right _ (List.mem_append_right _ (List.mem_append_right _ (List.mem_append_right _ (List.mem_append_right _ (List.mem_append_right _ (List.mem_append_right _ (List.mem_append_right _ (List.mem_append_right _ (List.mem_append_right _ (List.mem_append_right _ (List.mem_append_right _ (List.mem_append_right _ (List.mem_append_right _ (List.mem_append_right _ (List.mem_append_right _ (List.mem_append_right _ (List.mem_append_right _ (List.mem_append_right _ (List.mem_append_right _ (List.mem_append_right _ (List.mem_append_left _ h)))))))))))))))))))))))))))))))))))))))))))))))))))))))))))
theorem mL49 : ∀ w ∈ wsL_law0_r49, w ∈ wsL_law0 := fun _ h => List.mem_append_left _ (List.mem_append_left _ (List.mem_append_left _ (List.mem_append_left _ (List.mem_append_left _ (List.mem_append_left _ (List.mem_append_left _ (List.mem_append_left _ (List.mem_append_left _ (List.mem_append_left _ (List.mem_append_left _ (List.mem_append_left _ (List.mem_append_right _ (List.mem_append_right _ (List.mem_append_right _ (List.mem_append_right _ (List.mem_append_right _ (List.mem_append_right _ (List.mem_append_right _ (List.mem_append_right _ (List.mem_append_right _ (List.mem_append_right _ (List.mem_append_right _ (List.mem_append_right _ (List.mem_append_right _ (List.mem_append_right _ (List.mem_append_right _ (List.mem_append_right _ (List.mem_append_right _ (List.mem_append_right _ (List.mem_append_right _ (List.mem_append_right _ (List.mem_append_right _ (List.mem_append_right _ (List.mem_append_right _ (List.mem_append_right _ (List.mem_append_right _ (List.mem_append_right _ (List.mem_append_right _ (List.mem_append_right _ (List.mem_append_right _ (List.mem_append_right _ (List.mem_append_right _ (List.mem_append_right _ (List.mem_append_right _ (List.mem_append_right _ (List.mem_append_right _ (List.mem_append_right _ (List.mem_append_right _ (List.mem_append_right _ (List.mem_append_right _ (List.mem_append_right _ (List.mem_append_right _ (List.mem_append_right _ (List.mem_append_right _ (List.mem_append_right _ (List.mem_append_right _ (List.mem_append_right _ (List.mem_append_right _ (List.mem_append_right _ (List.mem_append_left _ h))))))))))))))))))))))))))))))))))))))))))))))))))))))))))))
theorem mL50 : ∀ w ∈ wsL_law0_r50, w ∈ wsL_law0 := fun _ h => List.mem_append_left _ (List.mem_append_left _ (List.mem_append_left _ (List.mem_append_left _ (List.mem_append_left _ (List.mem_append_left _ (List.mem_append_left _ (List.mem_append_left _ (List.mem_append_left _ (List.mem_append_left _ (List.mem_append_left _ (List.mem_append_left _ (List.mem_append_right _ (List.mem_append_right _ (List.mem_append_right _ (List.mem_append_right _ (List.mem_append_right _ (List.mem_append_right _ (List.mem_append_right _ (List.mem_append_right _ (List.mem_append_right _ (List.mem_append_right _ (List.mem_append_right _ (List.mem_append_right _ (List.mem_append_right _ (List.mem_append_right _ (List.mem_append_right _ (List.mem_append_right _ (List.mem_append_right _ (List.mem_append_right _ (List.mem_append_right _ (List.mem_append_right _ (List.mem_append_right _ (List.mem_append_right _ (List.mem_append_right _ (List.mem_append_right _ (List.mem_append_right _ (List.mem_append_right _ (List.mem_append_right _ (List.mem_append_right _ (List.mem_append_right _ (List.mem_append_right _ (List.mem_append_right _ (List.mem_append_right _ (List.mem_append_right _ (List.mem_append_right _ (List.mem_append_right _ (List.mem_append_right _ (List.mem_append_right _ (List.mem_append_right _ (List.mem_append_right _ (List.mem_append_right _ (List.mem_append_right _ (List.mem_append_right _ (List.mem_append_right _ (List.mem_append_right _ (List.mem_append_right _ (List.mem_append_right _ (List.mem_append_right _ (List.mem_append_right _ (List.mem_append_right _ (List.mem_append_left _ h)))))))))))))))))))))))))))))))))))))))))))))))))))))))))))))
theorem mL51 : ∀ w ∈ wsL_law0_r51, w ∈ wsL_law0 := fun _ h => List.mem_append_left _ (List.mem_append_left _ (List.mem_append_left _ (List.mem_append_left _ (List.mem_append_left _ (List.mem_append_left _ (List.mem_append_left _ (List.mem_append_left _ (List.mem_append_left _ (List.mem_append_left _ (List.mem_append_left _ (List.mem_append_left _ (List.mem_append_right _ (List.mem_append_right _ (List.mem_append_right _ (List.mem_append_right _ (List.mem_append_right _ (List.mem_append_right _ (List.mem_append_right _ (List.mem_append_right _ (List.mem_append_right _ (List.mem_append_right _ (List.mem_append_right _ (List.mem_append_right _ (List.mem_append_right _ (List.mem_append_right _ (List.mem_append_right _ (List.mem_append_right _ (List.mem_append_right _ (List.mem_append_right _ (List.mem_append_right _ (List.mem_append_right _ (List.mem_append_right _ (List.mem_append_right _ (List.mem_append_right _ (List.mem_append_right _ (List.mem_append_right _ (List.mem_append_right _ (List.mem_append_right _ (List.mem_append_right _ (List.mem_append_right _ (List.mem_append_right _ (List.mem_append_right _ (List.mem_append_right _ (List.mem_append_right _ (List.mem_append_right _ (List.mem_append_right _ (List.mem_append_right _ (List.mem_append_right _ (List.mem_append_right _ (List.mem_append_right _ (List.mem_append_right _ (List.mem_append_right _ (List.mem_append_right _ (List.mem_append_right _ (List.mem_append_right _ (List.mem_append_right _ (List.mem_append_right _ (List.mem_append_right _ (List.mem_append_right _ (List.mem_append_right _ (List.mem_append_right _ (List.mem_append_left _ h))))))))))))))))))))))))))))))))))))))))))))))))))))))))))))))
theorem mL52 : ∀ w ∈ wsL_law0_r52, w ∈ wsL_law0 := fun _ h => List.mem_append_left _ (List.mem_append_left _ (List.mem_append_left _ (List.mem_append_left _ (List.mem_append_left _ (List.mem_append_left _ (List.mem_append_left _ (List.mem_append_left _ (List.mem_append_left _ (List.mem_append_left _ (List.mem_append_left _ (List.mem_append_left _ (List.mem_append_right _ (List.mem_append_right _ (List.mem_append_right _ (List.mem_append_right _ (List.mem_append_right _ (List.mem_append_right _ (List.mem_append_right _ (List.mem_append_right _ (List.mem_append_right _ (List.mem_append_right _ (List.mem_append_right _ (List.mem_append_right _ (List.mem_append_right _ (List.mem_append_right _ (List.mem_append_right _ (List.mem_append_right _ (List.mem_append_right _ (List.mem_append_right _ (List.mem_append_right _ (List.mem_append_right _ (List.mem_append_right _ (List.mem_append_right _ (List.mem_append_right _ (List.mem_append_right _ (List.mem_append_right _ (List.mem_append_right _ (List.mem_append_right _ (List.mem_append_right _ (List.mem_append_right _ (List.mem_append_right _ (List.mem_append_right _ (List.mem_append_right _ (List.mem_append_right _ (List.mem_append_right _ (List.mem_append_right _ (List.mem_append_right _ (List.mem_append_right _ (List.mem_append_right _ (List.mem_append_right _ (List.mem_append_right _ (List.mem_append_right _ (List.mem_append_right _ (List.mem_append_right _ (List.mem_append_right _ (List.mem_append_right _ (List.mem_append_right _ (List.mem_append_right _ (List.mem_append_right _ (List.mem_append_right _ (List.mem_append_right _ (List.mem_append_right _ (List.mem_append_left _ h)))))))))))))))))))))))))))))))))))))))))))))))))))))))))))))))
theorem mL53 : ∀ w ∈ wsL_law0_r53, w ∈ wsL_law0 := fun _ h => List.mem_append_left _ (List.mem_append_left _ (List.mem_append_left _ (List.mem_append_left _ (List.mem_append_left _ (List.mem_append_left _ (List.mem_append_left _ (List.mem_append_left _ (List.mem_append_left _ (List.mem_append_left _ (List.mem_append_left _ (List.mem_append_left _ (List.mem_append_right _ (List.mem_append_right _ (List.mem_append_right _ (List.mem_append_right _ (List.mem_append_right _ (List.mem_append_right _ (List.mem_append_right _ (List.mem_append_right _ (List.mem_append_right _ (List.mem_append_right _ (List.mem_append_right _ (List.mem_append_right _ (List.mem_append_right _ (List.mem_append_right _ (List.mem_append_right _ (List.mem_append_right _ (List.mem_append_right _ (List.mem_append_right _ (List.mem_append_right _ (List.mem_append_right _ (List.mem_append_right _ (List.mem_append_right _ (List.mem_append_right _ (List.mem_append_right _ (List.mem_append_right _ (List.mem_append_right _ (List.mem_append_right _ (List.mem_append_right _ (List.mem_append_right _ (List.mem_append_right _ (List.mem_append_right _ (List.mem_append_right _ (List.mem_append_right _ (List.mem_append_right _ (List.mem_append_right _ (List.mem_append_right _ (List.mem_append_right _ (List.mem_append_right _ (List.mem_append_right _ (List.mem_append_right _ (List.mem_append_right _ (List.mem_append_right _ (List.mem_append_right _ (List.mem_append_right _ (List.mem_append_right _ (List.mem_append_right _ (List.mem_append_right _ (List.mem_append_right _ (List.mem_append_right _ (List.mem_append_right _ (List.mem_append_right _ (List.mem_append_right _ (List.mem_append_left _ h))))))))))))))))))))))))))))))))))))))))))))))))))))))))))))))))
theorem mL54 : ∀ w ∈ wsL_law0_r54, w ∈ wsL_law0 := fun _ h => List.mem_append_left _ (List.mem_append_left _ (List.mem_append_left _ (List.mem_append_left _ (List.mem_append_left _ (List.mem_append_left _ (List.mem_append_left _ (List.mem_append_left _ (List.mem_append_left _ (List.mem_append_left _ (List.mem_append_left _ (List.mem_append_left _ (List.mem_append_right _ (List.mem_append_right _ (List.mem_append_right _ (List.mem_append_right _ (List.mem_append_right _ (List.mem_append_right _ (List.mem_append_right _ (List.mem_append_right _ (List.mem_append_right _ (List.mem_append_right _ (List.mem_append_right _ (List.mem_append_right _ (List.mem_append_right _ (List.mem_append_right _ (List.mem_append_right _ (List.mem_append_right _ (List.mem_append_right _ (List.mem_append_right _ (List.mem_append_right _ (List.mem_append_right _ (List.mem_append_right _ (List.mem_append_right _ (List.mem_append_right _ (List.mem_append_right _ (List.mem_append_right _ (List.mem_append_right _ (List.mem_append_right _ (List.mem_append_right _ (List.mem_append_right _ (List.mem_append_right _ (List.mem_append_right _ (List.mem_append_right _ (List.mem_append_right _ (List.mem_append_right _ (List.mem_append_right _ (List.mem_append_right _ (List.mem_append_right _ (List.mem_append_right _ (List.mem_append_right _ (List.mem_append_right _ (List.mem_append_right _ (List.mem_append_right _ (List.mem_append_right _ (List.mem_append_right _ (List.mem_append_right _ (List.mem_append_right _ (List.mem_append_right _ (List.mem_append_right _ (List.mem_append_right _ (List.mem_append_right _ (List.mem_append_right _ (List.mem_append_right _ (List.mem_append_right _ (List.mem_append_left _ h)))))))))))))))))))))))))))))))))))))))))))))))))))))))))))))))))
theorem mL55 : ∀ w ∈ wsL_law0_r55, w ∈ wsL_law0 := fun _ h => List.mem_append_left _ (List.mem_append_left _ (List.mem_append_left _ (List.mem_append_left _ (List.mem_append_left _ (List.mem_append_left _ (List.mem_append_left _ (List.mem_append_left _ (List.mem_append_left _ (List.mem_append_left _ (List.mem_append_left _ (List.mem_append_left _ (List.mem_append_right _ (List.mem_append_right _ (List.mem_append_right _ (List.mem_append_right _ (List.mem_append_right _ (List.mem_append_right _ (List.mem_append_right _ (List.mem_append_right _ (List.mem_append_right _ (List.mem_append_right _ (List.mem_append_right _ (List.mem_append_right _ (List.mem_append_right _ (List.mem_append_right _ (List.mem_append_right _ (List.mem_append_right _ (List.mem_append_right _ (List.mem_append_right _ (List.mem_append_right _ (List.mem_append_right _ (List.mem_append_right _ (List.mem_append_right _ (List.mem_append_right _ (List.mem_append_right _ (List.mem_append_right _ (List.mem_append_right _ (List.mem_append_right _ (List.mem_append_right _ (List.mem_append_right _ (List.mem_append_right _ (List.mem_append_right _ (List.mem_append_right _ (List.mem_append_right _ (List.mem_append_right _ (List.mem_append_right _ (List.mem_append_right _ (List.mem_append_right _ (List.mem_append_right _ (List.mem_append_right _ (List.mem_append_right _ (List.mem_append_right _ (List.mem_append_right _ (List.mem_append_right _ (List.mem_append_right _ (List.mem_append_right _ (List.mem_append_right _ (List.mem_append_right _ (List.mem_append_right _ (List.mem_append_right _ (List.mem_append_right _ (List.mem_append_right _ (List.mem_append_right _ (List.mem_append_right _ (List.mem_append_right _ (List.mem_append_left _ h))))))))))))))))))))))))))))))))))))))))))))))))))))))))))))))))))
theorem mL56 : ∀ w ∈ wsL_law0_r56, w ∈ wsL_law0 := fun _ h => List.mem_append_left _ (List.mem_append_left _ (List.mem_append_left _ (List.mem_append_left _ (List.mem_append_left _ (List.mem_append_left _ (List.mem_append_left _ (List.mem_append_left _ (List.mem_append_left _ (List.mem_append_left _ (List.mem_append_left _ (List.mem_append_left _ (List.mem_append_right _ (List.mem_append_right _ (List.mem_append_right _ (List.mem_append_right _ (List.mem_append_right _ (List.mem_append_right _ (List.mem_append_right _ (List.mem_append_right _ (List.mem_append_right _ (List.mem_append_right _ (List.mem_append_right _ (List.mem_append_right _ (List.mem_append_right _ (List.mem_append_right _ (List.mem_append_right _ (List.mem_append_right _ (List.mem_append_right _ (List.mem_append_right _ (List.mem_append_right _ (List.mem_append_right _ (List.mem_append_right _ (List.mem_append_right _ (List.mem_append_right _ (List.mem_append_right _ (List.mem_append_right _ (List.mem_append_right _ (List.mem_append_right _ (List.mem_append_right _ (List.mem_append_right _ (List.mem_append_right _ (List.mem_append_right _ (List.mem_append_right _ (List.mem_append_right _ (List.mem_append_right _ (List.mem_append_right _ (List.mem_append_right _ (List.mem_append_right _ (List.mem_append_right _ (List.mem_append_right _ (List.mem_append_right _ (List.mem_append_right _ (List.mem_append_right _ (List.mem_append_right _ (List.mem_append_right _ (List.mem_append_right _ (List.mem_append_right _ (List.mem_append_right _ (List.mem_append_right _ (List.mem_append_right _ (List.mem_append_right _ (List.mem_append_right _ (List.mem_append_right _ (List.mem_append_right _ (List.mem_append_right _ (List.mem_append_right _ (List.mem_append_left _ h)))))))))))))))))))))))))))))))))))))))))))))))))))))))))))))))))))
theorem mL57 : ∀ w ∈ wsL_law0_r57, w ∈ wsL_law0 := fun _ h => List.mem_append_left _ (List.mem_append_left _ (List.mem_append_left _ (List.mem_append_left _ (List.mem_append_left _ (List.mem_append_left _ (List.mem_append_left _ (List.mem_append_left _ (List.mem_append_left _ (List.mem_append_left _ (List.mem_append_left _ (List.mem_append_left _ (List.mem_append_right _ (List.mem_append_right _ (List.mem_append_right _ (List.mem_append_right _ (List.mem_append_right _ (List.mem_append_right _ (List.mem_append_right _ (List.mem_append_right _ (List.mem_append_right _ (List.mem_append_right _ (List.mem_append_right _ (List.mem_append_right _ (List.mem_append_right _ (List.mem_append_right _ (List.mem_append_right _ (List.mem_append_right _ (List.mem_append_right _ (List.mem_append_right _ (List.mem_append_right _ (List.mem_append_right _ (List.mem_append_right _ (List.mem_append_right _ (List.mem_append_right _ (List.mem_append_right _ (List.mem_append_right _ (List.mem_append_right _ (List.mem_append_right _ (List.mem_append_right _ (List.mem_append_right _ (List.mem_append_right _ (List.mem_append_right _ (List.mem_append_right _ (List.mem_append_right _ (List.mem_append_right _ (List.mem_append_right _ (List.mem_append_right _ (List.mem_append_right _ (List.mem_append_right _ (List.mem_append_right _ (List.mem_append_right _ (List.mem_append_right _ (List.mem_append_right _ (List.mem_append_right _ (List.mem_append_right _ (List.mem_append_right _ (List.mem_append_right _ (List.mem_append_right _ (List.mem_append_right _ (List.mem_append_right _ (List.mem_append_right _ (List.mem_append_right _ (List.mem_append_right _ (List.mem_append_right _ (List.mem_append_right _ (List.mem_append_right _ (List.mem_append_right _ (List.mem_append_left _ h))))))))))))))))))))))))))))))))))))))))))))))))))))))))))))))))))))
theorem mL58 : ∀ w ∈ wsL_law0_r58, w ∈ wsL_law0 := fun _ h => List.mem_append_left _ (List.mem_append_left _ (List.mem_append_left _ (List.mem_append_left _ (List.mem_append_left _ (List.mem_append_left _ (List.mem_append_left _ (List.mem_append_left _ (List.mem_append_left _ (List.mem_append_left _ (List.mem_append_left _ (List.mem_append_left _ (List.mem_append_right _ (List.mem_append_right _ (List.mem_append_right _ (List.mem_append_right _ (List.mem_append_right _ (List.mem_append_right _ (List.mem_append_right _ (List.mem_append_right _ (List.mem_append_right _ (List.mem_append_right _ (List.mem_append_right _ (List.mem_append_right _ (List.mem_append_right _ (List.mem_append_right _ (List.mem_append_right _ (List.mem_append_right _ (List.mem_append_right _ (List.mem_append_right _ (List.mem_append_right _ (List.mem_append_right _ (List.mem_append_right _ (List.mem_append_right _ (List.mem_append_right _ (List.mem_append_right _ (List.mem_append_right _ (List.mem_append_right _ (List.mem_append_right _ (List.mem_append_right _ (List.mem_append_right _ (List.mem_append_right _ (List.mem_append_right _ (List.mem_append_right _ (List.mem_append_right _ (List.mem_append_right _ (List.mem_append_right _ (List.mem_append_right _ (List.mem_append_right _ (List.mem_append_right _ (List.mem_append_right _ (List.mem_append_right _ (List.mem_append_right _ (List.mem_append_right _ (List.mem_append_right _ (List.mem_append_right _ (List.mem_append_right _ (List.mem_append_right _ (List.mem_append_right _ (List.mem_append_right _ (List.mem_append_right _ (List.mem_append_right _ (List.mem_append_right _ (List.mem_append_right _ (List.mem_append_right _ (List.mem_append_right _ (List.mem_append_right _ (List.mem_append_right _ (List.mem_append_right _ (List.mem_append_left _ h)))))))))))))))))))))))))))))))))))))))))))))))))))))))))))))))))))))
theorem mL59 : ∀ w ∈ wsL_law0_r59, w ∈ wsL_law0 := fun _ h => List.mem_append_left _ (List.mem_append_left _ (List.mem_append_left _ (List.mem_append_left _ (List.mem_append_left _ (List.mem_append_left _ (List.mem_append_left _ (List.mem_append_left _ (List.mem_append_left _ (List.mem_append_left _ (List.mem_append_left _ (List.mem_append_left _ (List.mem_append_right _ (List.mem_append_right _ (List.mem_append_right _ (List.mem_append_right _ (List.mem_append_right _ (List.mem_append_right _ (List.mem_append_right _ (List.mem_append_right _ (List.mem_append_right _ (List.mem_append_right _ (List.mem_append_right _ (List.mem_append_right _ (List.mem_append_right _ (List.mem_append_right _ (List.mem_append_right _ (List.mem_append_right _ (List.mem_append_right _ (List.mem_append_right _ (List.mem_append_right _ (List.mem_append_right _ (List.mem_append_right _ (List.mem_append_right _ (List.mem_append_right _ (List.mem_append_right _ (List.mem_append_right _ (List.mem_append_right _ (List.mem_append_right _ (List.mem_append_right _ (List.mem_append_right _ (List.mem_append_right _ (List.mem_append_right _ (List.mem_append_right _ (List.mem_append_right _ (List.mem_append_right _ (List.mem_append_right _ (List.mem_append_right _ (List.mem_append_right _ (List.mem_append_right _ (List.mem_append_right _ (List.mem_append_right _ (List.mem_append_right _ (List.mem_append_right _ (List.mem_append_right _ (List.mem_append_right _ (List.mem_append_right _ (List.mem_append_right _ (List.mem_append_right _ (List.mem_append_right _ (List.mem_append_right _ (List.mem_append_right _ (List.mem_append_right _ (List.mem_append_right _ (List.mem_append_right _ (List.mem_append_right _ (List.mem_append_right _ (List.mem_append_right _ (List.mem_append_right _ (List.mem_append_right _ (List.mem_append_left _ h))))))))))))))))))))))))))))))))))))))))))))))))))))))))))))))))))))))
theorem mL60 : ∀ w ∈ wsL_law0_r60, w ∈ wsL_law0 := fun _ h => List.mem_append_left _ (List.mem_append_left _ (List.mem_append_left _ (List.mem_append_left _ (List.mem_append_left _ (List.mem_append_left _ (List.mem_append_left _ (List.mem_append_left _ (List.mem_append_left _ (List.mem_append_left _ (List.mem_append_left _ (List.mem_append_left _ (List.mem_append_right _ (List.mem_append_right _ (List.mem_append_right _ (List.mem_append_right _ (List.mem_append_right _ (List.mem_append_right _ (List.mem_append_right _ (List.mem_append_right _ (List.mem_append_right _ (List.mem_append_right _ (List.mem_append_right _ (List.mem_append_right _ (List.mem_append_right _ (List.mem_append_right _ (List.mem_append_right _ (List.mem_append_right _ (List.mem_append_right _ (List.mem_append_right _ (List.mem_append_right _ (List.mem_append_right _ (List.mem_append_right _ (List.mem_append_right _ (List.mem_append_right _ (List.mem_append_right _ (List.mem_append_right _ (List.mem_append_right _ (List.mem_append_right _ (List.mem_append_right _ (List.mem_append_right _ (List.mem_append_right _ (List.mem_append_right _ (List.mem_append_right _ (List.mem_append_right _ (List.mem_append_right _ (List.mem_append_right _ (List.mem_append_right _ (List.mem_append_right _ (List.mem_append_right _ (List.mem_append_right _ (List.mem_append_right _ (List.mem_append_right _ (List.mem_append_right _ (List.mem_append_right _ (List.mem_append_right _ (List.mem_append_right _ (List.mem_append_right _ (List.mem_append_right _ (List.mem_append_right _ (List.mem_append_right _ (List.mem_append_right _ (List.mem_append_right _ (List.mem_append_right _ (List.mem_append_right _ (List.mem_append_right _ (List.mem_append_right _ (List.mem_append_right _ (List.mem_append_right _ (List.mem_append_right _ (List.mem_append_right _ (List.mem_append_left _ h)))))))))))))))))))))))))))))))))))))))))))))))))))))))))))))))))))))))
theorem mL61 : ∀ w ∈ wsL_law0_r61, w ∈ wsL_law0 := fun _ h => List.mem_append_left _ (List.mem_append_left _ (List.mem_append_left _ (List.mem_append_left _ (List.mem_append_left _ (List.mem_append_left _ (List.mem_append_left _ (List.mem_append_left _ (List.mem_append_left _ (List.mem_append_left _ (List.mem_append_left _ (List.mem_append_left _ (List.mem_append_right _ (List.mem_append_right _ (List.mem_append_right _ (List.mem_append_right _ (List.mem_append_right _ (List.mem_append_right _ (List.mem_append_right _ (List.mem_append_right _ (List.mem_append_right _ (List.mem_append_right _ (List.mem_append_right _ (List.mem_append_right _ (List.mem_append_right _ (List.mem_append_right _ (List.mem_append_right _ (List.mem_append_right _ (List.mem_append_right _ (List.mem_append_right _ (List.mem_append_right _ (List.mem_append_right _ (List.mem_append_right _ (List.mem_append_right _ (List.mem_append_right _ (List.mem_append_right _ (List.mem_append_right _ (List.mem_append_right _ (List.mem_append_right _ (List.mem_append_right _ (List.mem_append_right _ (List.mem_append_right _ (List.mem_append_right _ (List.mem_append_right _ (List.mem_append_right _ (List.mem_append_right _ (List.mem_append_right _ (List.mem_append_right _ (List.mem_append_right _ (List.mem_append_right _ (List.mem_append_right _ (List.mem_append_right _ (List.mem_append_right _ (List.mem_append_right _ (List.mem_append_right _ (List.mem_append_right _ (List.mem_append_right _ (List.mem_append_right _ (List.mem_append_right _ (List.mem_append_right _ (List.mem_append_right _ (List.mem_append_right _ (List.mem_append_right _ (List.mem_append_right _ (List.mem_append_right _ (List.mem_append_right _ (List.mem_append_right _ (List.mem_append_right _ (List.mem_append_right _ (List.mem_append_right _ (List.mem_append_right _ (List.mem_append_right _ (List.mem_append_left _ h))))))))))))))))))))))))))))))))))))))))))))))))))))))))))))))))))))))))
theorem mL62 : ∀ w ∈ wsL_law0_r62, w ∈ wsL_law0 := fun _ h => List.mem_append_left _ (List.mem_append_left _ (List.mem_append_left _ (List.mem_append_left _ (List.mem_append_left _ (List.mem_append_left _ (List.mem_append_left _ (List.mem_append_left _ (List.mem_append_left _ (List.mem_append_left _ (List.mem_append_left _ (List.mem_append_left _ (List.mem_append_right _ (List.mem_append_right _ (List.mem_append_right _ (List.mem_append_right _ (List.mem_append_right _ (List.mem_append_right _ (List.mem_append_right _ (List.mem_append_right _ (List.mem_append_right _ (List.mem_append_right _ (List.mem_append_right _ (List.mem_append_right _ (List.mem_append_right _ (List.mem_append_right _ (List.mem_append_right _ (List.mem_append_right _ (List.mem_append_right _ (List.mem_append_right _ (List.mem_append_right _ (List.mem_append_right _ (List.mem_append_right _ (List.mem_append_right _ (List.mem_append_right _ (List.mem_append_right _ (List.mem_append_right _ (List.mem_append_right _ (List.mem_append_right _ (List.mem_append_right _ (List.mem_append_right _ (List.mem_append_right _ (List.mem_append_right _ (List.mem_append_right _ (List.mem_append_right _ (List.mem_append_right _ (List.mem_append_right _ (List.mem_append_right _ (List.mem_append_right _ (List.mem_append_right _ (List.mem_append_right _ (List.mem_append_right _ (List.mem_append_right _ (List.mem_append_right _ (List.mem_append_right _ (List.mem_append_right _ (List.mem_append_right _ (List.mem_append_right _ (List.mem_append_right _ (List.mem_append_right _ (List.mem_append_right _ (List.mem_append_right _ (List.mem_append_right _ (List.mem_append_right _ (List.mem_append_right _ (List.mem_append_right _ (List.mem_append_right _ (List.mem_append_right _ (List.mem_append_right _ (List.mem_append_right _ (List.mem_append_right _ (List.mem_append_right _ (List.mem_append_right _ (List.mem_append_left _ h)))))))))))))))))))))))))))))))))))))))))))))))))))))))))))))))))))))))))
theorem mL63 : ∀ w ∈ wsL_law0_r63, w ∈ wsL_law0 := fun _ h => List.mem_append_left _ (List.mem_append_left _ (List.mem_append_left _ (List.mem_append_left _ (List.mem_append_left _ (List.mem_append_left _ (List.mem_append_left _ (List.mem_append_left _ (List.mem_append_left _ (List.mem_append_left _ (List.mem_append_left _ (List.mem_append_left _ (List.mem_append_right _ (List.mem_append_right _ (List.mem_append_right _ (List.mem_append_right _ (List.mem_append_right _ (List.mem_append_right _ (List.mem_append_right _ (List.mem_append_right _ (List.mem_append_right _ (List.mem_append_right _ (List.mem_append_right _ (List.mem_append_right _ (List.mem_append_right _ (List.mem_append_right _ (List.mem_append_right _ (List.mem_append_right _ (List.mem_append_right _ (List.mem_append_right _ (List.mem_append_right _ (List.mem_append_right _ (List.mem_append_right _ (List.mem_append_right _ (List.mem_append_right _ (List.mem_append_right _ (List.mem_append_right _ (List.mem_append_right _ (List.mem_append_right _ (List.mem_append_right _ (List.mem_append_right _ (List.mem_append_right _ (List.mem_append_right _ (List.mem_append_right _ (List.mem_append_right _ (List.mem_append_right _ (List.mem_append_right _ (List.mem_append_right _ (List.mem_append_right _ (List.mem_append_right _ (List.mem_append_right _ (List.mem_append_right _ (List.mem_append_right _ (List.mem_append_right _ (List.mem_append_right _ (List.mem_append_right _ (List.mem_append_right _ (List.mem_append_right _ (List.mem_append_right _ (List.mem_append_right _ (List.mem_append_right _ (List.mem_append_right _ (List.mem_append_right _ (List.mem_append_right _ (List.mem_append_right _ (List.mem_append_right _ (List.mem_append_right _ (List.mem_append_right _ (List.mem_append_right _ (List.mem_append_right _ (List.mem_append_right _ (List.mem_append_right _ (List.mem_append_right _ (List.mem_append_right _ (List.mem_append_left _ h))))))))))))))))))))))))))))))))))))))))))))))))))))))))))))))))))))))))))
theorem mL64 : ∀ w ∈ wsL_law0_r64, w ∈ wsL_law0 := fun _ h => List.mem_append_left _ (List.mem_append_left _ (List.mem_append_left _ (List.mem_append_left _ (List.mem_append_left _ (List.mem_append_left _ (List.mem_append_left _ (List.mem_append_left _ (List.mem_append_left _ (List.mem_append_left _ (List.mem_append_left _ (List.mem_append_left _ (List.mem_append_right _ (List.mem_append_right _ (List.mem_append_right _ (List.mem_append_right _ (List.mem_append_right _ (List.mem_append_right _ (List.mem_append_right _ (List.mem_append_right _ (List.mem_append_right _ (List.mem_append_right _ (List.mem_append_right _ (List.mem_append_right _ (List.mem_append_right _ (List.mem_append_right _ (List.mem_append_right _ (List.mem_append_right _ (List.mem_append_right _ (List.mem_append_right _ (List.mem_append_right _ (List.mem_append_right _ (List.mem_append_right _ (List.mem_append_right _ (List.mem_append_right _ (List.mem_append_right _ (List.mem_append_right _ (List.mem_append_right _ (List.mem_append_right _ (List.mem_append_right _ (List.mem_append_right _ (List.mem_append_right _ (List.mem_append_right _ (List.mem_append_right _ (List.mem_append_right _ (List.mem_append_right _ (List.mem_append_right _ (List.mem_append_right _ (List.mem_append_right _ (List.mem_append_right _ (List.mem_append_right _ (List.mem_append_right _ (List.mem_append_right _ (List.mem_append_right _ (List.mem_append_right _ (List.mem_append_right _ (List.mem_append_right _ (List.mem_append_right _ (List.mem_append_right _ (List.mem_append_right _ (List.mem_append_right _ (List.mem_append_right _ (List.mem_append_right _ (List.mem_append_right _ (List.mem_append_right _ (List.mem_append_right _ (List.mem_append_right _ (List.mem_append_right _ (List.mem_append_right _ (List.mem_append_right _ (List.mem_append_right _ (List.mem_append_right _ (List.mem_append_right _ (List.mem_append_right _ (List.mem_append_right _ (List.mem_append_left _ h)))))))))))))))))))))))))))))))))))))))))))))))))))))))))))))))))))))))))))
theorem mL65 : ∀ w ∈ wsL_law0_r65, w ∈ wsL_law0 := fun _ h => List.mem_append_left _ (List.mem_append_left _ (List.mem_append_left _ (List.mem_append_left _ (List.mem_append_left _ (List.mem_append_left _ (List.mem_append_left _ (List.mem_append_left _ (List.mem_append_left _ (List.mem_append_left _ (List.mem_append_left _ (List.mem_append_left _ (List.mem_append_right _ (List.mem_append_right _ (List.mem_append_right _ (List.mem_append_right _ (List.mem_append_right _ (List.mem_append_right _ (List.mem_append_right _ (List.mem_append_right _ (List.mem_append_right _ (List.mem_append_right _ (List.mem_append_right _ (List.mem_append_right _ (List.mem_append_right _ (List.mem_append_right _ (List.mem_append_right _ (List.mem_append_right _ (List.mem_append_right _ (List.mem_append_right _ (List.mem_append_right _ (List.mem_append_right _ (List.mem_append_right _ (List.mem_append_right _ (List.mem_append_right _ (List.mem_append_right _ (List.mem_append_right _ (List.mem_append_right _ (List.mem_append_right _ (List.mem_append_right _ (List.mem_append_right _ (List.mem_append_right _ (List.mem_append_right _ (List.mem_append_right _ (List.mem_append_right _ (List.mem_append_right _ (List.mem_append_right _ (List.mem_append_right _ (List.mem_append_right _ (List.mem_append_right _ (List.mem_append_right _ (List.mem_append_right _ (List.mem_append_right _ (List.mem_append_right _ (List.mem_append_right _ (List.mem_append_right _ (List.mem_append_right _ (List.mem_append_right _ (List.mem_append_right _ (List.mem_append_right _ (List.mem_append_right _ (List.mem_append_right _ (List.mem_append_right _ (List.mem_append_right _ (List.mem_append_right _ (List.mem_append_right _ (List.mem_append_right _ (List.mem_append_right _ (List.mem_append_right _ (List.mem_append_right _ (List.mem_append_right _ (List.mem_append_right _ (List.mem_append_right _ (List.mem_append_right _ (List.mem_append_right _ (List.mem_append_right _ (List.mem_append_left _ h))))))))))))))))))))))))))))))))))))))))))))))))))))))))))))))))))))))))))))
theorem mL66 : ∀ w ∈ wsL_law0_r66, w ∈ wsL_law0 := fun _ h => List.mem_append_left _ (List.mem_append_left _ (List.mem_append_left _ (List.mem_append_left _ (List.mem_append_left _ (List.mem_append_left _ (List.mem_append_left _ (List.mem_append_left _ (List.mem_append_left _ (List.mem_append_left _ (List.mem_append_left _ (List.mem_append_left _ (List.mem_append_right _ (List.mem_append_right _ (List.mem_append_right _ (List.mem_append_right _ (List.mem_append_right _ (List.mem_append_right _ (List.mem_append_right _ (List.mem_append_right _ (List.mem_append_right _ (List.mem_append_right _ (List.mem_append_right _ (List.mem_append_right _ (List.mem_append_right _ (List.mem_append_right _ (List.mem_append_right _ (List.mem_append_right _ (List.mem_append_right _ (List.mem_append_right _ (List.mem_append_right _ (List.mem_append_right _ (List.mem_append_right _ (List.mem_append_right _ (List.mem_append_right _ (List.mem_append_right _ (List.mem_append_right _ (List.mem_append_right _ (List.mem_append_right _ (List.mem_append_right _ (List.mem_append_right _ (List.mem_append_right _ (List.mem_append_right _ (List.mem_append_right _ (List.mem_append_right _ (List.mem_append_right _ (List.mem_append_right _ (List.mem_append_right _ (List.mem_append_right _ (List.mem_append_right _ (List.mem_append_right _ (List.mem_append_right _ (List.mem_append_right _ (List.mem_append_right _ (List.mem_append_right _ (List.mem_append_right _ (List.mem_append_right _ (List.mem_append_right _ (List.mem_append_right _ (List.mem_append_right _ (List.mem_append_right _ (List.mem_append_right _ (List.mem_append_right _ (List.mem_append_right _ (List.mem_append_right _ (List.mem_append_right _ (List.mem_append_right _ (List.mem_append_right _ (List.mem_append_right _ (List.mem_append_right _ (List.mem_append_right _ (List.mem_append_right _ (List.mem_append_right _ (List.mem_append_right _ (List.mem_append_right _ (List.mem_append_right _ (List.mem_append_right _ (List.mem_append_left _ h)))))))))))))))))))))))))))))))))))))))))))))))))))))))))))))))))))))))))))))
theorem mL67 : ∀ w ∈ wsL_law0_r67, w ∈ wsL_law0 := fun _ h => List.mem_append_left _ (List.mem_append_left _ (List.mem_append_left _ (List.mem_append_left _ (List.mem_append_left _ (List.mem_append_left _ (List.mem_append_left _ (List.mem_append_left _ (List.mem_append_left _ (List.mem_append_left _ (List.mem_append_left _ (List.mem_append_left _ (List.mem_append_right _ (List.mem_append_right _ (List.mem_append_right _ (List.mem_append_right _ (List.mem_append_right _ (List.mem_append_right _ (List.mem_append_right _ (List.mem_append_right _ (List.mem_append_right _ (List.mem_append_right _ (List.mem_append_right _ (List.mem_append_right _ (List.mem_append_right _ (List.mem_append_right _ (List.mem_append_right _ (List.mem_append_right _ (List.mem_append_right _ (List.mem_append_right _ (List.mem_append_right _ (List.mem_append_right _ (List.mem_append_right _ (List.mem_append_right _ (List.mem_append_right _ (List.mem_append_right _ (List.mem_append_right _ (List.mem_append_right _ (List.mem_append_right _ (List.mem_append_right _ (List.mem_append_right _ (List.mem_append_right _ (List.mem_append_right _ (List.mem_append_right _ (List.mem_append_right _ (List.mem_append_right _ (List.mem_append_right _ (List.mem_append_right _ (List.mem_append_right _ (List.mem_append_right _ (List.mem_append_right _ (List.mem_append_right _ (List.mem_append_right _ (List.mem_append_right _ (List.mem_append_right _ (List.mem_append_right _ (List.mem_append_right _ (List.mem_append_right _ (List.mem_append_right _ (List.mem_append_right _ (List.mem_append_right _ (List.mem_append_right _ (List.mem_append_right _ (List.mem_append_right _ (List.mem_append_right _ (List.mem_append_right _ (List.mem_append_right _ (List.mem_append_right _ (List.mem_append_right _ (List.mem_append_right _ (List.mem_append_right _ (List.mem_append_right _ (List.mem_append_right _ (List.mem_append_right _ (List.mem_append_right _ (List.mem_append_right _ (List.mem_append_right _ (List.mem_append_right _ (h))))))))))))))))))))))))))))))))))))))))))))))))))))))))))))))))))))))))))))))
def strL : List (String × Nat × String) := [(RX9, 103, "house"), (RX9, 167, "apart"), (RX9, 173, "motor"), (RX9, 175, "leader"), (RX9, 177, "burns"), (RX9, 179, "trim"), (RX9, 181, "mend"), (RX9, 111, "by"), (RX9, 119, "reel"), (RX9, 124, "town"), (RX9, 129, "mark"), (RX9, 134, "join"), (RX9, 139, "weak"), (RX9, 144, "man"), (RX9, 149, "shows"), (RX9, 154, "boys"), (RX9, 159, "seen"), (RX9, 287, "scratch"), (RX9, 203, "frames"), (RX9, 205, "first"), (RX9, 207, "whole"), (RX9, 215, "trust"), (RX9, 235, "lacks"), (RX9, 243, "snaps"), (RX9, 251, "clean"), (RX9, 253, "early"), (RX9, 255, "late"), (RX9, 257, "misled"), (RX9, 249, "slip"), (RX9, 270, "ride"), (RX9, 272, "falls"), (RX9, 277, "black"), (RX9, 279, "lost"), (RX11, 152, "house"), (RX11, 262, "apart"), (RX11, 268, "motor"), (RX11, 269, "leader"), (RX11, 271, "burns"), (RX11, 273, "trim"), (RX11, 275, "mend"), (RX11, 154, "reel"), (RX11, 156, "town"), (RX11, 158, "mark"), (RX11, 160, "join"), (RX11, 162, "weak"), (RX11, 164, "man"), (RX11, 166, "shows"), (RX11, 168, "boys"), (RX11, 170, "by"), (RX11, 172, "seen"), (RX11, 174, "scratch"), (RX11, 281, "frames"), (RX11, 283, "first"), (RX11, 285, "whole"), (RX11, 286, "trust"), (RX11, 294, "lacks"), (RX11, 296, "snaps"), (RX11, 298, "clean"), (RX11, 300, "early"), (RX11, 302, "late"), (RX11, 304, "misled"), (RX11, 306, "slip"), (RX11, 312, "ride"), (RX11, 314, "falls"), (RX11, 316, "black"), (RX11, 318, "lost")]
def nestL : List (String × Nat × MethodName × String) := [(RX10, 9, yX9_init, RX10), (RX9, 17, yX3_init, RX10), (RX3, 9, yX7_init, RX10), (RX10, 18, yX3_init, RX10), (RX10, 25, yX7_init, RX10), (RX4, 30, yX7_init, RX10), (RX10, 39, yX5_init, RX10), (RX10, 46, yX0_init, RX10), (RX10, 53, yX6_init, RX10), (RX10, 60, yX1_init, RX10), (RX10, 67, yX2_init, RX10)]
