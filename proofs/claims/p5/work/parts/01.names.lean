-- ===== PART A: goes FIRST, ahead of the names: the tables' words, and 'selects' of the private methods out of them =====
/-- a private method of a class that the tables say can be made, by its rows of tables_1 -/
def lw_okq (q : MethodName × Nat) : Prop := (q.1.cls ≠ "java/lang/invoke/MethodHandle" ∧ q.1.cls ≠ "java/lang/invoke/VarHandle") ∧ Cond.instantiable q.1.cls q.2 ∈ tables_1 ∧ Cond.privateMethod q.1 ∈ tables_1 ∧ Cond.instanceMethod q.1 ∈ tables_1
theorem lw_p0 : lw_okq (⟨"ReelChange", "refuse", "(I)I"⟩, 10) := ⟨⟨by decide +kernel, by decide +kernel⟩, List.mem_of_getElem? (i := 25) (by decide +kernel), List.mem_of_getElem? (i := 399) (by decide +kernel), List.mem_of_getElem? (i := 400) (by decide +kernel)⟩
theorem lw_p1 : lw_okq (⟨"ReelChange$Text", "next", "()V"⟩, 15) := ⟨⟨by decide +kernel, by decide +kernel⟩, List.mem_of_getElem? (i := 33) (by decide +kernel), List.mem_of_getElem? (i := 421) (by decide +kernel), List.mem_of_getElem? (i := 422) (by decide +kernel)⟩
theorem lw_p2 : lw_okq (⟨"ReelChange$Text", "kindAt", "(I)I"⟩, 15) := ⟨⟨by decide +kernel, by decide +kernel⟩, List.mem_of_getElem? (i := 33) (by decide +kernel), List.mem_of_getElem? (i := 425) (by decide +kernel), List.mem_of_getElem? (i := 426) (by decide +kernel)⟩
theorem lw_p3 : lw_okq (⟨"ReelChange$Text", "isLine", "()Z"⟩, 15) := ⟨⟨by decide +kernel, by decide +kernel⟩, List.mem_of_getElem? (i := 33) (by decide +kernel), List.mem_of_getElem? (i := 430) (by decide +kernel), List.mem_of_getElem? (i := 431) (by decide +kernel)⟩
theorem lw_p4 : lw_okq (⟨"ReelChange$Text", "is", "(Ljava/lang/String;)Z"⟩, 15) := ⟨⟨by decide +kernel, by decide +kernel⟩, List.mem_of_getElem? (i := 33) (by decide +kernel), List.mem_of_getElem? (i := 435) (by decide +kernel), List.mem_of_getElem? (i := 436) (by decide +kernel)⟩
theorem lw_p5 : lw_okq (⟨"ReelChange$Text", "isHouseLine", "()Z"⟩, 15) := ⟨⟨by decide +kernel, by decide +kernel⟩, List.mem_of_getElem? (i := 33) (by decide +kernel), List.mem_of_getElem? (i := 487) (by decide +kernel), List.mem_of_getElem? (i := 488) (by decide +kernel)⟩
theorem lw_p6 : lw_okq (⟨"ReelChange$Text", "refuseAt", "(II)Z"⟩, 15) := ⟨⟨by decide +kernel, by decide +kernel⟩, List.mem_of_getElem? (i := 33) (by decide +kernel), List.mem_of_getElem? (i := 491) (by decide +kernel), List.mem_of_getElem? (i := 492) (by decide +kernel)⟩
theorem lw_p7 : lw_okq (⟨"ReelChange$Text", "isNumber", "(Ljava/lang/String;III)Z"⟩, 15) := ⟨⟨by decide +kernel, by decide +kernel⟩, List.mem_of_getElem? (i := 33) (by decide +kernel), List.mem_of_getElem? (i := 496) (by decide +kernel), List.mem_of_getElem? (i := 497) (by decide +kernel)⟩
theorem lw_p8 : lw_okq (⟨"ReelChange$Text", "isLabel", "(Ljava/lang/String;)Z"⟩, 15) := ⟨⟨by decide +kernel, by decide +kernel⟩, List.mem_of_getElem? (i := 33) (by decide +kernel), List.mem_of_getElem? (i := 500) (by decide +kernel), List.mem_of_getElem? (i := 501) (by decide +kernel)⟩
theorem lw_p9 : lw_okq (⟨"ReelChange$Text", "isWhole", "(II)Z"⟩, 15) := ⟨⟨by decide +kernel, by decide +kernel⟩, List.mem_of_getElem? (i := 33) (by decide +kernel), List.mem_of_getElem? (i := 504) (by decide +kernel), List.mem_of_getElem? (i := 505) (by decide +kernel)⟩
theorem lw_p10 : lw_okq (⟨"ReelChange$Text", "isReserved", "()Z"⟩, 15) := ⟨⟨by decide +kernel, by decide +kernel⟩, List.mem_of_getElem? (i := 33) (by decide +kernel), List.mem_of_getElem? (i := 518) (by decide +kernel), List.mem_of_getElem? (i := 519) (by decide +kernel)⟩
theorem lw_p11 : lw_okq (⟨"ReelChange$Text", "isReelLine", "()Z"⟩, 15) := ⟨⟨by decide +kernel, by decide +kernel⟩, List.mem_of_getElem? (i := 33) (by decide +kernel), List.mem_of_getElem? (i := 532) (by decide +kernel), List.mem_of_getElem? (i := 533) (by decide +kernel)⟩
theorem lw_p12 : lw_okq (⟨"ReelChange$Text", "hasRoom", "(LReelChange$Table;)Z"⟩, 15) := ⟨⟨by decide +kernel, by decide +kernel⟩, List.mem_of_getElem? (i := 33) (by decide +kernel), List.mem_of_getElem? (i := 536) (by decide +kernel), List.mem_of_getElem? (i := 537) (by decide +kernel)⟩
theorem lw_p13 : lw_okq (⟨"ReelChange$Text", "isNewName", "(II)Z"⟩, 15) := ⟨⟨by decide +kernel, by decide +kernel⟩, List.mem_of_getElem? (i := 33) (by decide +kernel), List.mem_of_getElem? (i := 544) (by decide +kernel), List.mem_of_getElem? (i := 545) (by decide +kernel)⟩
theorem lw_p14 : lw_okq (⟨"ReelChange$Text", "findName", "()I"⟩, 15) := ⟨⟨by decide +kernel, by decide +kernel⟩, List.mem_of_getElem? (i := 33) (by decide +kernel), List.mem_of_getElem? (i := 548) (by decide +kernel), List.mem_of_getElem? (i := 549) (by decide +kernel)⟩
theorem lw_p15 : lw_okq (⟨"ReelChange$Text", "isTownLine", "()Z"⟩, 15) := ⟨⟨by decide +kernel, by decide +kernel⟩, List.mem_of_getElem? (i := 33) (by decide +kernel), List.mem_of_getElem? (i := 561) (by decide +kernel), List.mem_of_getElem? (i := 562) (by decide +kernel)⟩
def lw_privs_1 : List (MethodName × Nat) := [(⟨"ReelChange", "refuse", "(I)I"⟩, 10), (⟨"ReelChange$Text", "next", "()V"⟩, 15), (⟨"ReelChange$Text", "kindAt", "(I)I"⟩, 15), (⟨"ReelChange$Text", "isLine", "()Z"⟩, 15), (⟨"ReelChange$Text", "is", "(Ljava/lang/String;)Z"⟩, 15), (⟨"ReelChange$Text", "isHouseLine", "()Z"⟩, 15), (⟨"ReelChange$Text", "refuseAt", "(II)Z"⟩, 15), (⟨"ReelChange$Text", "isNumber", "(Ljava/lang/String;III)Z"⟩, 15), (⟨"ReelChange$Text", "isLabel", "(Ljava/lang/String;)Z"⟩, 15), (⟨"ReelChange$Text", "isWhole", "(II)Z"⟩, 15), (⟨"ReelChange$Text", "isReserved", "()Z"⟩, 15), (⟨"ReelChange$Text", "isReelLine", "()Z"⟩, 15), (⟨"ReelChange$Text", "hasRoom", "(LReelChange$Table;)Z"⟩, 15), (⟨"ReelChange$Text", "isNewName", "(II)Z"⟩, 15), (⟨"ReelChange$Text", "findName", "()I"⟩, 15), (⟨"ReelChange$Text", "isTownLine", "()Z"⟩, 15)]
theorem lw_r1 : ∀ q ∈ lw_privs_1, lw_okq q := List.forall_mem_cons.mpr ⟨lw_p0, List.forall_mem_cons.mpr ⟨lw_p1, List.forall_mem_cons.mpr ⟨lw_p2, List.forall_mem_cons.mpr ⟨lw_p3, List.forall_mem_cons.mpr ⟨lw_p4, List.forall_mem_cons.mpr ⟨lw_p5, List.forall_mem_cons.mpr ⟨lw_p6, List.forall_mem_cons.mpr ⟨lw_p7, List.forall_mem_cons.mpr ⟨lw_p8, List.forall_mem_cons.mpr ⟨lw_p9, List.forall_mem_cons.mpr ⟨lw_p10, List.forall_mem_cons.mpr ⟨lw_p11, List.forall_mem_cons.mpr ⟨lw_p12, List.forall_mem_cons.mpr ⟨lw_p13, List.forall_mem_cons.mpr ⟨lw_p14, List.forall_mem_cons.mpr ⟨lw_p15, fun _ h => absurd h List.not_mem_nil⟩⟩⟩⟩⟩⟩⟩⟩⟩⟩⟩⟩⟩⟩⟩⟩
theorem lw_p16 : lw_okq (⟨"ReelChange$Text", "isMarkLine", "()Z"⟩, 15) := ⟨⟨by decide +kernel, by decide +kernel⟩, List.mem_of_getElem? (i := 33) (by decide +kernel), List.mem_of_getElem? (i := 566) (by decide +kernel), List.mem_of_getElem? (i := 567) (by decide +kernel)⟩
theorem lw_p17 : lw_okq (⟨"ReelChange$Text", "isOldName", "(I)Z"⟩, 15) := ⟨⟨by decide +kernel, by decide +kernel⟩, List.mem_of_getElem? (i := 33) (by decide +kernel), List.mem_of_getElem? (i := 570) (by decide +kernel), List.mem_of_getElem? (i := 571) (by decide +kernel)⟩
theorem lw_p18 : lw_okq (⟨"ReelChange$Text", "lastFrame", "(I)I"⟩, 15) := ⟨⟨by decide +kernel, by decide +kernel⟩, List.mem_of_getElem? (i := 33) (by decide +kernel), List.mem_of_getElem? (i := 578) (by decide +kernel), List.mem_of_getElem? (i := 579) (by decide +kernel)⟩
theorem lw_p19 : lw_okq (⟨"ReelChange$Text", "isJoinLine", "()Z"⟩, 15) := ⟨⟨by decide +kernel, by decide +kernel⟩, List.mem_of_getElem? (i := 33) (by decide +kernel), List.mem_of_getElem? (i := 587) (by decide +kernel), List.mem_of_getElem? (i := 588) (by decide +kernel)⟩
theorem lw_p20 : lw_okq (⟨"ReelChange$Text", "isWeakLine", "()Z"⟩, 15) := ⟨⟨by decide +kernel, by decide +kernel⟩, List.mem_of_getElem? (i := 33) (by decide +kernel), List.mem_of_getElem? (i := 592) (by decide +kernel), List.mem_of_getElem? (i := 593) (by decide +kernel)⟩
theorem lw_p21 : lw_okq (⟨"ReelChange$Text", "isManLine", "()Z"⟩, 15) := ⟨⟨by decide +kernel, by decide +kernel⟩, List.mem_of_getElem? (i := 33) (by decide +kernel), List.mem_of_getElem? (i := 597) (by decide +kernel), List.mem_of_getElem? (i := 598) (by decide +kernel)⟩
theorem lw_p22 : lw_okq (⟨"ReelChange$Text", "kindOfMan", "()I"⟩, 15) := ⟨⟨by decide +kernel, by decide +kernel⟩, List.mem_of_getElem? (i := 33) (by decide +kernel), List.mem_of_getElem? (i := 601) (by decide +kernel), List.mem_of_getElem? (i := 602) (by decide +kernel)⟩
theorem lw_p23 : lw_okq (⟨"ReelChange$Text", "isShowsLine", "()Z"⟩, 15) := ⟨⟨by decide +kernel, by decide +kernel⟩, List.mem_of_getElem? (i := 33) (by decide +kernel), List.mem_of_getElem? (i := 610) (by decide +kernel), List.mem_of_getElem? (i := 611) (by decide +kernel)⟩
theorem lw_p24 : lw_okq (⟨"ReelChange$Text", "isBoysLine", "()Z"⟩, 15) := ⟨⟨by decide +kernel, by decide +kernel⟩, List.mem_of_getElem? (i := 33) (by decide +kernel), List.mem_of_getElem? (i := 619) (by decide +kernel), List.mem_of_getElem? (i := 620) (by decide +kernel)⟩
theorem lw_p25 : lw_okq (⟨"ReelChange$Text", "isSeenLine", "()Z"⟩, 15) := ⟨⟨by decide +kernel, by decide +kernel⟩, List.mem_of_getElem? (i := 33) (by decide +kernel), List.mem_of_getElem? (i := 625) (by decide +kernel), List.mem_of_getElem? (i := 626) (by decide +kernel)⟩
theorem lw_p26 : lw_okq (⟨"ReelChange$Text", "isScratchLine", "()Z"⟩, 15) := ⟨⟨by decide +kernel, by decide +kernel⟩, List.mem_of_getElem? (i := 33) (by decide +kernel), List.mem_of_getElem? (i := 631) (by decide +kernel), List.mem_of_getElem? (i := 632) (by decide +kernel)⟩
theorem lw_p27 : lw_okq (⟨"ReelChange$Text", "isFollowed", "()Z"⟩, 15) := ⟨⟨by decide +kernel, by decide +kernel⟩, List.mem_of_getElem? (i := 33) (by decide +kernel), List.mem_of_getElem? (i := 635) (by decide +kernel), List.mem_of_getElem? (i := 636) (by decide +kernel)⟩
theorem lw_p28 : lw_okq (⟨"ReelChange", "tell", "(I)I"⟩, 10) := ⟨⟨by decide +kernel, by decide +kernel⟩, List.mem_of_getElem? (i := 25) (by decide +kernel), List.mem_of_getElem? (i := 660) (by decide +kernel), List.mem_of_getElem? (i := 661) (by decide +kernel)⟩
theorem lw_p29 : lw_okq (⟨"ReelChange", "ofPlace", "(II)I"⟩, 10) := ⟨⟨by decide +kernel, by decide +kernel⟩, List.mem_of_getElem? (i := 25) (by decide +kernel), List.mem_of_getElem? (i := 704) (by decide +kernel), List.mem_of_getElem? (i := 705) (by decide +kernel)⟩
theorem lw_p30 : lw_okq (⟨"ReelChange", "ofNight", "(III)I"⟩, 10) := ⟨⟨by decide +kernel, by decide +kernel⟩, List.mem_of_getElem? (i := 25) (by decide +kernel), List.mem_of_getElem? (i := 716) (by decide +kernel), List.mem_of_getElem? (i := 717) (by decide +kernel)⟩
theorem lw_p31 : lw_okq (⟨"ReelChange", "runNight", "(I)Z"⟩, 10) := ⟨⟨by decide +kernel, by decide +kernel⟩, List.mem_of_getElem? (i := 25) (by decide +kernel), List.mem_of_getElem? (i := 720) (by decide +kernel), List.mem_of_getElem? (i := 721) (by decide +kernel)⟩
def lw_privs_2 : List (MethodName × Nat) := [(⟨"ReelChange$Text", "isMarkLine", "()Z"⟩, 15), (⟨"ReelChange$Text", "isOldName", "(I)Z"⟩, 15), (⟨"ReelChange$Text", "lastFrame", "(I)I"⟩, 15), (⟨"ReelChange$Text", "isJoinLine", "()Z"⟩, 15), (⟨"ReelChange$Text", "isWeakLine", "()Z"⟩, 15), (⟨"ReelChange$Text", "isManLine", "()Z"⟩, 15), (⟨"ReelChange$Text", "kindOfMan", "()I"⟩, 15), (⟨"ReelChange$Text", "isShowsLine", "()Z"⟩, 15), (⟨"ReelChange$Text", "isBoysLine", "()Z"⟩, 15), (⟨"ReelChange$Text", "isSeenLine", "()Z"⟩, 15), (⟨"ReelChange$Text", "isScratchLine", "()Z"⟩, 15), (⟨"ReelChange$Text", "isFollowed", "()Z"⟩, 15), (⟨"ReelChange", "tell", "(I)I"⟩, 10), (⟨"ReelChange", "ofPlace", "(II)I"⟩, 10), (⟨"ReelChange", "ofNight", "(III)I"⟩, 10), (⟨"ReelChange", "runNight", "(I)Z"⟩, 10)]
theorem lw_r2 : ∀ q ∈ lw_privs_2, lw_okq q := List.forall_mem_cons.mpr ⟨lw_p16, List.forall_mem_cons.mpr ⟨lw_p17, List.forall_mem_cons.mpr ⟨lw_p18, List.forall_mem_cons.mpr ⟨lw_p19, List.forall_mem_cons.mpr ⟨lw_p20, List.forall_mem_cons.mpr ⟨lw_p21, List.forall_mem_cons.mpr ⟨lw_p22, List.forall_mem_cons.mpr ⟨lw_p23, List.forall_mem_cons.mpr ⟨lw_p24, List.forall_mem_cons.mpr ⟨lw_p25, List.forall_mem_cons.mpr ⟨lw_p26, List.forall_mem_cons.mpr ⟨lw_p27, List.forall_mem_cons.mpr ⟨lw_p28, List.forall_mem_cons.mpr ⟨lw_p29, List.forall_mem_cons.mpr ⟨lw_p30, List.forall_mem_cons.mpr ⟨lw_p31, fun _ h => absurd h List.not_mem_nil⟩⟩⟩⟩⟩⟩⟩⟩⟩⟩⟩⟩⟩⟩⟩⟩
theorem lw_p32 : lw_okq (⟨"ReelChange$Night", "goBy", "(II)V"⟩, 9) := ⟨⟨by decide +kernel, by decide +kernel⟩, List.mem_of_getElem? (i := 246) (by decide +kernel), List.mem_of_getElem? (i := 747) (by decide +kernel), List.mem_of_getElem? (i := 748) (by decide +kernel)⟩
theorem lw_p33 : lw_okq (⟨"ReelChange$Night", "showReel", "(LReelChange$House;LReelChange$State;II)V"⟩, 9) := ⟨⟨by decide +kernel, by decide +kernel⟩, List.mem_of_getElem? (i := 246) (by decide +kernel), List.mem_of_getElem? (i := 751) (by decide +kernel), List.mem_of_getElem? (i := 752) (by decide +kernel)⟩
theorem lw_p34 : lw_okq (⟨"ReelChange$Night", "slipNow", "()I"⟩, 9) := ⟨⟨by decide +kernel, by decide +kernel⟩, List.mem_of_getElem? (i := 246) (by decide +kernel), List.mem_of_getElem? (i := 755) (by decide +kernel), List.mem_of_getElem? (i := 756) (by decide +kernel)⟩
theorem lw_p35 : lw_okq (⟨"ReelChange$Night", "draw", "()I"⟩, 9) := ⟨⟨by decide +kernel, by decide +kernel⟩, List.mem_of_getElem? (i := 246) (by decide +kernel), List.mem_of_getElem? (i := 759) (by decide +kernel), List.mem_of_getElem? (i := 760) (by decide +kernel)⟩
theorem lw_p36 : lw_okq (⟨"ReelChange$Night", "snapWeakPlaces", "(LReelChange$House;LReelChange$State;I)V"⟩, 9) := ⟨⟨by decide +kernel, by decide +kernel⟩, List.mem_of_getElem? (i := 246) (by decide +kernel), List.mem_of_getElem? (i := 768) (by decide +kernel), List.mem_of_getElem? (i := 769) (by decide +kernel)⟩
theorem lw_p37 : lw_okq (⟨"ReelChange", "isOpen", "()Z"⟩, 10) := ⟨⟨by decide +kernel, by decide +kernel⟩, List.mem_of_getElem? (i := 25) (by decide +kernel), List.mem_of_getElem? (i := 841) (by decide +kernel), List.mem_of_getElem? (i := 842) (by decide +kernel)⟩
theorem lw_p38 : lw_okq (⟨"ReelChange", "leastSlip", "(I)I"⟩, 10) := ⟨⟨by decide +kernel, by decide +kernel⟩, List.mem_of_getElem? (i := 25) (by decide +kernel), List.mem_of_getElem? (i := 849) (by decide +kernel), List.mem_of_getElem? (i := 850) (by decide +kernel)⟩
theorem lw_p39 : lw_okq (⟨"ReelChange$State", "isMarked", "(III)Z"⟩, 6) := ⟨⟨by decide +kernel, by decide +kernel⟩, List.mem_of_getElem? (i := 45) (by decide +kernel), List.mem_of_getElem? (i := 928) (by decide +kernel), List.mem_of_getElem? (i := 929) (by decide +kernel)⟩
theorem lw_p40 : lw_okq (⟨"ReelChange", "tellPart", "(Z)J"⟩, 10) := ⟨⟨by decide +kernel, by decide +kernel⟩, List.mem_of_getElem? (i := 25) (by decide +kernel), List.mem_of_getElem? (i := 948) (by decide +kernel), List.mem_of_getElem? (i := 949) (by decide +kernel)⟩
theorem lw_p41 : lw_okq (⟨"ReelChange", "nearestMark", "(I)I"⟩, 10) := ⟨⟨by decide +kernel, by decide +kernel⟩, List.mem_of_getElem? (i := 25) (by decide +kernel), List.mem_of_getElem? (i := 968) (by decide +kernel), List.mem_of_getElem? (i := 969) (by decide +kernel)⟩
theorem lw_p42 : lw_okq (⟨"ReelChange", "farFrom", "(II)I"⟩, 10) := ⟨⟨by decide +kernel, by decide +kernel⟩, List.mem_of_getElem? (i := 25) (by decide +kernel), List.mem_of_getElem? (i := 972) (by decide +kernel), List.mem_of_getElem? (i := 973) (by decide +kernel)⟩
theorem lw_p43 : lw_okq (⟨"ReelChange", "lackedBy", "(I)I"⟩, 10) := ⟨⟨by decide +kernel, by decide +kernel⟩, List.mem_of_getElem? (i := 25) (by decide +kernel), List.mem_of_getElem? (i := 985) (by decide +kernel), List.mem_of_getElem? (i := 986) (by decide +kernel)⟩
theorem lw_p44 : lw_okq (⟨"ReelChange", "rideTrouble", "(III)I"⟩, 10) := ⟨⟨by decide +kernel, by decide +kernel⟩, List.mem_of_getElem? (i := 25) (by decide +kernel), List.mem_of_getElem? (i := 1018) (by decide +kernel), List.mem_of_getElem? (i := 1019) (by decide +kernel)⟩
theorem lw_p45 : lw_okq (⟨"ReelChange", "boysMeant", "(I)I"⟩, 10) := ⟨⟨by decide +kernel, by decide +kernel⟩, List.mem_of_getElem? (i := 25) (by decide +kernel), List.mem_of_getElem? (i := 1022) (by decide +kernel), List.mem_of_getElem? (i := 1023) (by decide +kernel)⟩
theorem lw_p46 : lw_okq (⟨"ReelChange", "apartBy", "(I)I"⟩, 10) := ⟨⟨by decide +kernel, by decide +kernel⟩, List.mem_of_getElem? (i := 25) (by decide +kernel), List.mem_of_getElem? (i := 1026) (by decide +kernel), List.mem_of_getElem? (i := 1027) (by decide +kernel)⟩
theorem lw_p47 : lw_okq (⟨"ReelChange$Riders", "soonestBack", "(I)I"⟩, 3) := ⟨⟨by decide +kernel, by decide +kernel⟩, List.mem_of_getElem? (i := 303) (by decide +kernel), List.mem_of_getElem? (i := 1035) (by decide +kernel), List.mem_of_getElem? (i := 1036) (by decide +kernel)⟩
def lw_privs_3 : List (MethodName × Nat) := [(⟨"ReelChange$Night", "goBy", "(II)V"⟩, 9), (⟨"ReelChange$Night", "showReel", "(LReelChange$House;LReelChange$State;II)V"⟩, 9), (⟨"ReelChange$Night", "slipNow", "()I"⟩, 9), (⟨"ReelChange$Night", "draw", "()I"⟩, 9), (⟨"ReelChange$Night", "snapWeakPlaces", "(LReelChange$House;LReelChange$State;I)V"⟩, 9), (⟨"ReelChange", "isOpen", "()Z"⟩, 10), (⟨"ReelChange", "leastSlip", "(I)I"⟩, 10), (⟨"ReelChange$State", "isMarked", "(III)Z"⟩, 6), (⟨"ReelChange", "tellPart", "(Z)J"⟩, 10), (⟨"ReelChange", "nearestMark", "(I)I"⟩, 10), (⟨"ReelChange", "farFrom", "(II)I"⟩, 10), (⟨"ReelChange", "lackedBy", "(I)I"⟩, 10), (⟨"ReelChange", "rideTrouble", "(III)I"⟩, 10), (⟨"ReelChange", "boysMeant", "(I)I"⟩, 10), (⟨"ReelChange", "apartBy", "(I)I"⟩, 10), (⟨"ReelChange$Riders", "soonestBack", "(I)I"⟩, 3)]
theorem lw_r3 : ∀ q ∈ lw_privs_3, lw_okq q := List.forall_mem_cons.mpr ⟨lw_p32, List.forall_mem_cons.mpr ⟨lw_p33, List.forall_mem_cons.mpr ⟨lw_p34, List.forall_mem_cons.mpr ⟨lw_p35, List.forall_mem_cons.mpr ⟨lw_p36, List.forall_mem_cons.mpr ⟨lw_p37, List.forall_mem_cons.mpr ⟨lw_p38, List.forall_mem_cons.mpr ⟨lw_p39, List.forall_mem_cons.mpr ⟨lw_p40, List.forall_mem_cons.mpr ⟨lw_p41, List.forall_mem_cons.mpr ⟨lw_p42, List.forall_mem_cons.mpr ⟨lw_p43, List.forall_mem_cons.mpr ⟨lw_p44, List.forall_mem_cons.mpr ⟨lw_p45, List.forall_mem_cons.mpr ⟨lw_p46, List.forall_mem_cons.mpr ⟨lw_p47, fun _ h => absurd h List.not_mem_nil⟩⟩⟩⟩⟩⟩⟩⟩⟩⟩⟩⟩⟩⟩⟩⟩
theorem lw_p48 : lw_okq (⟨"ReelChange$Exchanger", "sort", "(LReelChange$State;)V"⟩, 3) := ⟨⟨by decide +kernel, by decide +kernel⟩, List.mem_of_getElem? (i := 323) (by decide +kernel), List.mem_of_getElem? (i := 1071) (by decide +kernel), List.mem_of_getElem? (i := 1072) (by decide +kernel)⟩
theorem lw_p49 : lw_okq (⟨"ReelChange$Exchanger", "weigh", "(LReelChange$State;)V"⟩, 3) := ⟨⟨by decide +kernel, by decide +kernel⟩, List.mem_of_getElem? (i := 323) (by decide +kernel), List.mem_of_getElem? (i := 1078) (by decide +kernel), List.mem_of_getElem? (i := 1079) (by decide +kernel)⟩
theorem lw_p50 : lw_okq (⟨"ReelChange", "wasteByDraws", "(III)I"⟩, 10) := ⟨⟨by decide +kernel, by decide +kernel⟩, List.mem_of_getElem? (i := 25) (by decide +kernel), List.mem_of_getElem? (i := 1101) (by decide +kernel), List.mem_of_getElem? (i := 1102) (by decide +kernel)⟩
theorem lw_p51 : lw_okq (⟨"ReelChange", "refuseAct", "(I)Z"⟩, 10) := ⟨⟨by decide +kernel, by decide +kernel⟩, List.mem_of_getElem? (i := 25) (by decide +kernel), List.mem_of_getElem? (i := 1109) (by decide +kernel), List.mem_of_getElem? (i := 1110) (by decide +kernel)⟩
theorem lw_p52 : lw_okq (⟨"ReelChange", "actDone", "()Z"⟩, 10) := ⟨⟨by decide +kernel, by decide +kernel⟩, List.mem_of_getElem? (i := 25) (by decide +kernel), List.mem_of_getElem? (i := 1123) (by decide +kernel), List.mem_of_getElem? (i := 1124) (by decide +kernel)⟩
theorem lw_p53 : lw_okq (⟨"java/lang/Throwable", "fillInStackTrace", "(I)Ljava/lang/Throwable;"⟩, 6) := ⟨⟨by decide +kernel, by decide +kernel⟩, List.mem_of_getElem? (i := 1225) (by decide +kernel), List.mem_of_getElem? (i := 1223) (by decide +kernel), List.mem_of_getElem? (i := 1224) (by decide +kernel)⟩
theorem lw_p54 : lw_okq (⟨"ReelChangeModel", "good", "()V"⟩, 43) := ⟨⟨by decide +kernel, by decide +kernel⟩, List.mem_of_getElem? (i := 1250) (by decide +kernel), List.mem_of_getElem? (i := 1394) (by decide +kernel), List.mem_of_getElem? (i := 1395) (by decide +kernel)⟩
theorem lw_p55 : lw_okq (⟨"ReelChangeModel", "no", "(I)I"⟩, 43) := ⟨⟨by decide +kernel, by decide +kernel⟩, List.mem_of_getElem? (i := 1250) (by decide +kernel), List.mem_of_getElem? (i := 1401) (by decide +kernel), List.mem_of_getElem? (i := 1402) (by decide +kernel)⟩
theorem lw_p56 : lw_okq (⟨"ReelChangeModel", "next", "()V"⟩, 43) := ⟨⟨by decide +kernel, by decide +kernel⟩, List.mem_of_getElem? (i := 1250) (by decide +kernel), List.mem_of_getElem? (i := 1405) (by decide +kernel), List.mem_of_getElem? (i := 1406) (by decide +kernel)⟩
theorem lw_p57 : lw_okq (⟨"ReelChangeModel", "look", "(I)I"⟩, 43) := ⟨⟨by decide +kernel, by decide +kernel⟩, List.mem_of_getElem? (i := 1250) (by decide +kernel), List.mem_of_getElem? (i := 1409) (by decide +kernel), List.mem_of_getElem? (i := 1410) (by decide +kernel)⟩
theorem lw_p58 : lw_okq (⟨"ReelChangeModel", "readLine", "()V"⟩, 43) := ⟨⟨by decide +kernel, by decide +kernel⟩, List.mem_of_getElem? (i := 1250) (by decide +kernel), List.mem_of_getElem? (i := 1419) (by decide +kernel), List.mem_of_getElem? (i := 1420) (by decide +kernel)⟩
theorem lw_p59 : lw_okq (⟨"ReelChangeModel", "isWord", "(Ljava/lang/String;)Z"⟩, 43) := ⟨⟨by decide +kernel, by decide +kernel⟩, List.mem_of_getElem? (i := 1250) (by decide +kernel), List.mem_of_getElem? (i := 1424) (by decide +kernel), List.mem_of_getElem? (i := 1425) (by decide +kernel)⟩
theorem lw_p60 : lw_okq (⟨"ReelChangeModel", "houseLine", "()V"⟩, 43) := ⟨⟨by decide +kernel, by decide +kernel⟩, List.mem_of_getElem? (i := 1250) (by decide +kernel), List.mem_of_getElem? (i := 1430) (by decide +kernel), List.mem_of_getElem? (i := 1431) (by decide +kernel)⟩
theorem lw_p61 : lw_okq (⟨"ReelChangeModel", "bad", "(II)V"⟩, 43) := ⟨⟨by decide +kernel, by decide +kernel⟩, List.mem_of_getElem? (i := 1250) (by decide +kernel), List.mem_of_getElem? (i := 1434) (by decide +kernel), List.mem_of_getElem? (i := 1435) (by decide +kernel)⟩
theorem lw_p62 : lw_okq (⟨"ReelChangeModel", "after", "(Ljava/lang/String;II)I"⟩, 43) := ⟨⟨by decide +kernel, by decide +kernel⟩, List.mem_of_getElem? (i := 1250) (by decide +kernel), List.mem_of_getElem? (i := 1439) (by decide +kernel), List.mem_of_getElem? (i := 1440) (by decide +kernel)⟩
theorem lw_p63 : lw_okq (⟨"ReelChangeModel", "must", "(Ljava/lang/String;)V"⟩, 43) := ⟨⟨by decide +kernel, by decide +kernel⟩, List.mem_of_getElem? (i := 1250) (by decide +kernel), List.mem_of_getElem? (i := 1443) (by decide +kernel), List.mem_of_getElem? (i := 1444) (by decide +kernel)⟩
def lw_privs_4 : List (MethodName × Nat) := [(⟨"ReelChange$Exchanger", "sort", "(LReelChange$State;)V"⟩, 3), (⟨"ReelChange$Exchanger", "weigh", "(LReelChange$State;)V"⟩, 3), (⟨"ReelChange", "wasteByDraws", "(III)I"⟩, 10), (⟨"ReelChange", "refuseAct", "(I)Z"⟩, 10), (⟨"ReelChange", "actDone", "()Z"⟩, 10), (⟨"java/lang/Throwable", "fillInStackTrace", "(I)Ljava/lang/Throwable;"⟩, 6), (⟨"ReelChangeModel", "good", "()V"⟩, 43), (⟨"ReelChangeModel", "no", "(I)I"⟩, 43), (⟨"ReelChangeModel", "next", "()V"⟩, 43), (⟨"ReelChangeModel", "look", "(I)I"⟩, 43), (⟨"ReelChangeModel", "readLine", "()V"⟩, 43), (⟨"ReelChangeModel", "isWord", "(Ljava/lang/String;)Z"⟩, 43), (⟨"ReelChangeModel", "houseLine", "()V"⟩, 43), (⟨"ReelChangeModel", "bad", "(II)V"⟩, 43), (⟨"ReelChangeModel", "after", "(Ljava/lang/String;II)I"⟩, 43), (⟨"ReelChangeModel", "must", "(Ljava/lang/String;)V"⟩, 43)]
theorem lw_r4 : ∀ q ∈ lw_privs_4, lw_okq q := List.forall_mem_cons.mpr ⟨lw_p48, List.forall_mem_cons.mpr ⟨lw_p49, List.forall_mem_cons.mpr ⟨lw_p50, List.forall_mem_cons.mpr ⟨lw_p51, List.forall_mem_cons.mpr ⟨lw_p52, List.forall_mem_cons.mpr ⟨lw_p53, List.forall_mem_cons.mpr ⟨lw_p54, List.forall_mem_cons.mpr ⟨lw_p55, List.forall_mem_cons.mpr ⟨lw_p56, List.forall_mem_cons.mpr ⟨lw_p57, List.forall_mem_cons.mpr ⟨lw_p58, List.forall_mem_cons.mpr ⟨lw_p59, List.forall_mem_cons.mpr ⟨lw_p60, List.forall_mem_cons.mpr ⟨lw_p61, List.forall_mem_cons.mpr ⟨lw_p62, List.forall_mem_cons.mpr ⟨lw_p63, fun _ h => absurd h List.not_mem_nil⟩⟩⟩⟩⟩⟩⟩⟩⟩⟩⟩⟩⟩⟩⟩⟩
theorem lw_p64 : lw_okq (⟨"ReelChangeModel", "takesWord", "(Ljava/lang/String;)Z"⟩, 43) := ⟨⟨by decide +kernel, by decide +kernel⟩, List.mem_of_getElem? (i := 1250) (by decide +kernel), List.mem_of_getElem? (i := 1447) (by decide +kernel), List.mem_of_getElem? (i := 1448) (by decide +kernel)⟩
theorem lw_p65 : lw_okq (⟨"ReelChangeModel", "number", "(II)I"⟩, 43) := ⟨⟨by decide +kernel, by decide +kernel⟩, List.mem_of_getElem? (i := 1250) (by decide +kernel), List.mem_of_getElem? (i := 1451) (by decide +kernel), List.mem_of_getElem? (i := 1452) (by decide +kernel)⟩
theorem lw_p66 : lw_okq (⟨"ReelChangeModel", "numberHere", "(II)I"⟩, 43) := ⟨⟨by decide +kernel, by decide +kernel⟩, List.mem_of_getElem? (i := 1250) (by decide +kernel), List.mem_of_getElem? (i := 1455) (by decide +kernel), List.mem_of_getElem? (i := 1456) (by decide +kernel)⟩
theorem lw_p67 : lw_okq (⟨"ReelChangeModel", "opens", "(Ljava/lang/String;Z)Z"⟩, 43) := ⟨⟨by decide +kernel, by decide +kernel⟩, List.mem_of_getElem? (i := 1250) (by decide +kernel), List.mem_of_getElem? (i := 1465) (by decide +kernel), List.mem_of_getElem? (i := 1466) (by decide +kernel)⟩
theorem lw_p68 : lw_okq (⟨"ReelChangeModel", "reelLine", "()V"⟩, 43) := ⟨⟨by decide +kernel, by decide +kernel⟩, List.mem_of_getElem? (i := 1250) (by decide +kernel), List.mem_of_getElem? (i := 1469) (by decide +kernel), List.mem_of_getElem? (i := 1470) (by decide +kernel)⟩
theorem lw_p69 : lw_okq (⟨"ReelChangeModel", "newName", "(I)V"⟩, 43) := ⟨⟨by decide +kernel, by decide +kernel⟩, List.mem_of_getElem? (i := 1250) (by decide +kernel), List.mem_of_getElem? (i := 1473) (by decide +kernel), List.mem_of_getElem? (i := 1474) (by decide +kernel)⟩
theorem lw_p70 : lw_okq (⟨"ReelChangeModel", "mustName", "()V"⟩, 43) := ⟨⟨by decide +kernel, by decide +kernel⟩, List.mem_of_getElem? (i := 1250) (by decide +kernel), List.mem_of_getElem? (i := 1477) (by decide +kernel), List.mem_of_getElem? (i := 1478) (by decide +kernel)⟩
theorem lw_p71 : lw_okq (⟨"ReelChangeModel", "find", "()I"⟩, 43) := ⟨⟨by decide +kernel, by decide +kernel⟩, List.mem_of_getElem? (i := 1250) (by decide +kernel), List.mem_of_getElem? (i := 1491) (by decide +kernel), List.mem_of_getElem? (i := 1492) (by decide +kernel)⟩
theorem lw_p72 : lw_okq (⟨"ReelChangeModel", "townLine", "()V"⟩, 43) := ⟨⟨by decide +kernel, by decide +kernel⟩, List.mem_of_getElem? (i := 1250) (by decide +kernel), List.mem_of_getElem? (i := 1498) (by decide +kernel), List.mem_of_getElem? (i := 1499) (by decide +kernel)⟩
theorem lw_p73 : lw_okq (⟨"ReelChangeModel", "markLine", "()V"⟩, 43) := ⟨⟨by decide +kernel, by decide +kernel⟩, List.mem_of_getElem? (i := 1250) (by decide +kernel), List.mem_of_getElem? (i := 1503) (by decide +kernel), List.mem_of_getElem? (i := 1504) (by decide +kernel)⟩
theorem lw_p74 : lw_okq (⟨"ReelChangeModel", "reelPassed", "()I"⟩, 43) := ⟨⟨by decide +kernel, by decide +kernel⟩, List.mem_of_getElem? (i := 1250) (by decide +kernel), List.mem_of_getElem? (i := 1507) (by decide +kernel), List.mem_of_getElem? (i := 1508) (by decide +kernel)⟩
theorem lw_p75 : lw_okq (⟨"ReelChangeModel", "named", "(II)I"⟩, 43) := ⟨⟨by decide +kernel, by decide +kernel⟩, List.mem_of_getElem? (i := 1250) (by decide +kernel), List.mem_of_getElem? (i := 1511) (by decide +kernel), List.mem_of_getElem? (i := 1512) (by decide +kernel)⟩
theorem lw_p76 : lw_okq (⟨"ReelChangeModel", "frameOf", "(I)I"⟩, 43) := ⟨⟨by decide +kernel, by decide +kernel⟩, List.mem_of_getElem? (i := 1250) (by decide +kernel), List.mem_of_getElem? (i := 1515) (by decide +kernel), List.mem_of_getElem? (i := 1516) (by decide +kernel)⟩
theorem lw_p77 : lw_okq (⟨"ReelChangeModel", "joinLine", "()V"⟩, 43) := ⟨⟨by decide +kernel, by decide +kernel⟩, List.mem_of_getElem? (i := 1250) (by decide +kernel), List.mem_of_getElem? (i := 1519) (by decide +kernel), List.mem_of_getElem? (i := 1520) (by decide +kernel)⟩
theorem lw_p78 : lw_okq (⟨"ReelChangeModel", "weakLine", "()V"⟩, 43) := ⟨⟨by decide +kernel, by decide +kernel⟩, List.mem_of_getElem? (i := 1250) (by decide +kernel), List.mem_of_getElem? (i := 1524) (by decide +kernel), List.mem_of_getElem? (i := 1525) (by decide +kernel)⟩
theorem lw_p79 : lw_okq (⟨"ReelChangeModel", "manLine", "()V"⟩, 43) := ⟨⟨by decide +kernel, by decide +kernel⟩, List.mem_of_getElem? (i := 1250) (by decide +kernel), List.mem_of_getElem? (i := 1529) (by decide +kernel), List.mem_of_getElem? (i := 1530) (by decide +kernel)⟩
def lw_privs_5 : List (MethodName × Nat) := [(⟨"ReelChangeModel", "takesWord", "(Ljava/lang/String;)Z"⟩, 43), (⟨"ReelChangeModel", "number", "(II)I"⟩, 43), (⟨"ReelChangeModel", "numberHere", "(II)I"⟩, 43), (⟨"ReelChangeModel", "opens", "(Ljava/lang/String;Z)Z"⟩, 43), (⟨"ReelChangeModel", "reelLine", "()V"⟩, 43), (⟨"ReelChangeModel", "newName", "(I)V"⟩, 43), (⟨"ReelChangeModel", "mustName", "()V"⟩, 43), (⟨"ReelChangeModel", "find", "()I"⟩, 43), (⟨"ReelChangeModel", "townLine", "()V"⟩, 43), (⟨"ReelChangeModel", "markLine", "()V"⟩, 43), (⟨"ReelChangeModel", "reelPassed", "()I"⟩, 43), (⟨"ReelChangeModel", "named", "(II)I"⟩, 43), (⟨"ReelChangeModel", "frameOf", "(I)I"⟩, 43), (⟨"ReelChangeModel", "joinLine", "()V"⟩, 43), (⟨"ReelChangeModel", "weakLine", "()V"⟩, 43), (⟨"ReelChangeModel", "manLine", "()V"⟩, 43)]
theorem lw_r5 : ∀ q ∈ lw_privs_5, lw_okq q := List.forall_mem_cons.mpr ⟨lw_p64, List.forall_mem_cons.mpr ⟨lw_p65, List.forall_mem_cons.mpr ⟨lw_p66, List.forall_mem_cons.mpr ⟨lw_p67, List.forall_mem_cons.mpr ⟨lw_p68, List.forall_mem_cons.mpr ⟨lw_p69, List.forall_mem_cons.mpr ⟨lw_p70, List.forall_mem_cons.mpr ⟨lw_p71, List.forall_mem_cons.mpr ⟨lw_p72, List.forall_mem_cons.mpr ⟨lw_p73, List.forall_mem_cons.mpr ⟨lw_p74, List.forall_mem_cons.mpr ⟨lw_p75, List.forall_mem_cons.mpr ⟨lw_p76, List.forall_mem_cons.mpr ⟨lw_p77, List.forall_mem_cons.mpr ⟨lw_p78, List.forall_mem_cons.mpr ⟨lw_p79, fun _ h => absurd h List.not_mem_nil⟩⟩⟩⟩⟩⟩⟩⟩⟩⟩⟩⟩⟩⟩⟩⟩
theorem lw_p80 : lw_okq (⟨"ReelChangeModel", "opensOnce", "(Ljava/lang/String;Z)Z"⟩, 43) := ⟨⟨by decide +kernel, by decide +kernel⟩, List.mem_of_getElem? (i := 1250) (by decide +kernel), List.mem_of_getElem? (i := 1538) (by decide +kernel), List.mem_of_getElem? (i := 1539) (by decide +kernel)⟩
theorem lw_p81 : lw_okq (⟨"ReelChangeModel", "showsLine", "()V"⟩, 43) := ⟨⟨by decide +kernel, by decide +kernel⟩, List.mem_of_getElem? (i := 1250) (by decide +kernel), List.mem_of_getElem? (i := 1542) (by decide +kernel), List.mem_of_getElem? (i := 1543) (by decide +kernel)⟩
theorem lw_p82 : lw_okq (⟨"ReelChangeModel", "comma", "()Z"⟩, 43) := ⟨⟨by decide +kernel, by decide +kernel⟩, List.mem_of_getElem? (i := 1250) (by decide +kernel), List.mem_of_getElem? (i := 1546) (by decide +kernel), List.mem_of_getElem? (i := 1547) (by decide +kernel)⟩
theorem lw_p83 : lw_okq (⟨"ReelChangeModel", "boysLine", "()V"⟩, 43) := ⟨⟨by decide +kernel, by decide +kernel⟩, List.mem_of_getElem? (i := 1250) (by decide +kernel), List.mem_of_getElem? (i := 1550) (by decide +kernel), List.mem_of_getElem? (i := 1551) (by decide +kernel)⟩
theorem lw_p84 : lw_okq (⟨"ReelChangeModel", "seenLine", "()V"⟩, 43) := ⟨⟨by decide +kernel, by decide +kernel⟩, List.mem_of_getElem? (i := 1250) (by decide +kernel), List.mem_of_getElem? (i := 1556) (by decide +kernel), List.mem_of_getElem? (i := 1557) (by decide +kernel)⟩
theorem lw_p85 : lw_okq (⟨"ReelChangeModel", "scratchLine", "()V"⟩, 43) := ⟨⟨by decide +kernel, by decide +kernel⟩, List.mem_of_getElem? (i := 1250) (by decide +kernel), List.mem_of_getElem? (i := 1562) (by decide +kernel), List.mem_of_getElem? (i := 1563) (by decide +kernel)⟩
theorem lw_p86 : lw_okq (⟨"ReelChangeModel", "isReel", "(I)Z"⟩, 43) := ⟨⟨by decide +kernel, by decide +kernel⟩, List.mem_of_getElem? (i := 1250) (by decide +kernel), List.mem_of_getElem? (i := 1581) (by decide +kernel), List.mem_of_getElem? (i := 1582) (by decide +kernel)⟩
theorem lw_p87 : lw_okq (⟨"ReelChangeModel", "marksOf", "(I)I"⟩, 43) := ⟨⟨by decide +kernel, by decide +kernel⟩, List.mem_of_getElem? (i := 1250) (by decide +kernel), List.mem_of_getElem? (i := 1585) (by decide +kernel), List.mem_of_getElem? (i := 1586) (by decide +kernel)⟩
theorem lw_p88 : lw_okq (⟨"ReelChangeModel", "joinsOf", "(I)I"⟩, 43) := ⟨⟨by decide +kernel, by decide +kernel⟩, List.mem_of_getElem? (i := 1250) (by decide +kernel), List.mem_of_getElem? (i := 1589) (by decide +kernel), List.mem_of_getElem? (i := 1590) (by decide +kernel)⟩
theorem lw_p89 : lw_okq (⟨"ReelChangeModel", "isMended", "(I)Z"⟩, 43) := ⟨⟨by decide +kernel, by decide +kernel⟩, List.mem_of_getElem? (i := 1250) (by decide +kernel), List.mem_of_getElem? (i := 1593) (by decide +kernel), List.mem_of_getElem? (i := 1594) (by decide +kernel)⟩
theorem lw_p90 : lw_okq (⟨"ReelChangeModel", "weaksOf", "(I)I"⟩, 43) := ⟨⟨by decide +kernel, by decide +kernel⟩, List.mem_of_getElem? (i := 1250) (by decide +kernel), List.mem_of_getElem? (i := 1600) (by decide +kernel), List.mem_of_getElem? (i := 1601) (by decide +kernel)⟩
theorem lw_p91 : lw_okq (⟨"ReelChangeModel", "markOf", "(II)I"⟩, 43) := ⟨⟨by decide +kernel, by decide +kernel⟩, List.mem_of_getElem? (i := 1250) (by decide +kernel), List.mem_of_getElem? (i := 1608) (by decide +kernel), List.mem_of_getElem? (i := 1609) (by decide +kernel)⟩
theorem lw_p92 : lw_okq (⟨"ReelChangeModel", "isPlace", "(I)Z"⟩, 43) := ⟨⟨by decide +kernel, by decide +kernel⟩, List.mem_of_getElem? (i := 1250) (by decide +kernel), List.mem_of_getElem? (i := 1616) (by decide +kernel), List.mem_of_getElem? (i := 1617) (by decide +kernel)⟩
theorem lw_p93 : lw_okq (⟨"ReelChangeModel", "reelAt", "(I)I"⟩, 43) := ⟨⟨by decide +kernel, by decide +kernel⟩, List.mem_of_getElem? (i := 1250) (by decide +kernel), List.mem_of_getElem? (i := 1620) (by decide +kernel), List.mem_of_getElem? (i := 1621) (by decide +kernel)⟩
theorem lw_p94 : lw_okq (⟨"ReelChangeModel", "canTell", "(II)Z"⟩, 43) := ⟨⟨by decide +kernel, by decide +kernel⟩, List.mem_of_getElem? (i := 1250) (by decide +kernel), List.mem_of_getElem? (i := 1632) (by decide +kernel), List.mem_of_getElem? (i := 1633) (by decide +kernel)⟩
theorem lw_p95 : lw_okq (⟨"ReelChangeModel", "isMan", "(I)Z"⟩, 43) := ⟨⟨by decide +kernel, by decide +kernel⟩, List.mem_of_getElem? (i := 1250) (by decide +kernel), List.mem_of_getElem? (i := 1636) (by decide +kernel), List.mem_of_getElem? (i := 1637) (by decide +kernel)⟩
def lw_privs_6 : List (MethodName × Nat) := [(⟨"ReelChangeModel", "opensOnce", "(Ljava/lang/String;Z)Z"⟩, 43), (⟨"ReelChangeModel", "showsLine", "()V"⟩, 43), (⟨"ReelChangeModel", "comma", "()Z"⟩, 43), (⟨"ReelChangeModel", "boysLine", "()V"⟩, 43), (⟨"ReelChangeModel", "seenLine", "()V"⟩, 43), (⟨"ReelChangeModel", "scratchLine", "()V"⟩, 43), (⟨"ReelChangeModel", "isReel", "(I)Z"⟩, 43), (⟨"ReelChangeModel", "marksOf", "(I)I"⟩, 43), (⟨"ReelChangeModel", "joinsOf", "(I)I"⟩, 43), (⟨"ReelChangeModel", "isMended", "(I)Z"⟩, 43), (⟨"ReelChangeModel", "weaksOf", "(I)I"⟩, 43), (⟨"ReelChangeModel", "markOf", "(II)I"⟩, 43), (⟨"ReelChangeModel", "isPlace", "(I)Z"⟩, 43), (⟨"ReelChangeModel", "reelAt", "(I)I"⟩, 43), (⟨"ReelChangeModel", "canTell", "(II)Z"⟩, 43), (⟨"ReelChangeModel", "isMan", "(I)Z"⟩, 43)]
theorem lw_r6 : ∀ q ∈ lw_privs_6, lw_okq q := List.forall_mem_cons.mpr ⟨lw_p80, List.forall_mem_cons.mpr ⟨lw_p81, List.forall_mem_cons.mpr ⟨lw_p82, List.forall_mem_cons.mpr ⟨lw_p83, List.forall_mem_cons.mpr ⟨lw_p84, List.forall_mem_cons.mpr ⟨lw_p85, List.forall_mem_cons.mpr ⟨lw_p86, List.forall_mem_cons.mpr ⟨lw_p87, List.forall_mem_cons.mpr ⟨lw_p88, List.forall_mem_cons.mpr ⟨lw_p89, List.forall_mem_cons.mpr ⟨lw_p90, List.forall_mem_cons.mpr ⟨lw_p91, List.forall_mem_cons.mpr ⟨lw_p92, List.forall_mem_cons.mpr ⟨lw_p93, List.forall_mem_cons.mpr ⟨lw_p94, List.forall_mem_cons.mpr ⟨lw_p95, fun _ h => absurd h List.not_mem_nil⟩⟩⟩⟩⟩⟩⟩⟩⟩⟩⟩⟩⟩⟩⟩⟩
theorem lw_p96 : lw_okq (⟨"ReelChangeModel", "layTold", "(I)V"⟩, 43) := ⟨⟨by decide +kernel, by decide +kernel⟩, List.mem_of_getElem? (i := 1250) (by decide +kernel), List.mem_of_getElem? (i := 1640) (by decide +kernel), List.mem_of_getElem? (i := 1641) (by decide +kernel)⟩
theorem lw_p97 : lw_okq (⟨"ReelChangeModel", "layNight", "(I)V"⟩, 43) := ⟨⟨by decide +kernel, by decide +kernel⟩, List.mem_of_getElem? (i := 1250) (by decide +kernel), List.mem_of_getElem? (i := 1644) (by decide +kernel), List.mem_of_getElem? (i := 1645) (by decide +kernel)⟩
theorem lw_p98 : lw_okq (⟨"ReelChangeModel", "framesAt", "(I)I"⟩, 43) := ⟨⟨by decide +kernel, by decide +kernel⟩, List.mem_of_getElem? (i := 1250) (by decide +kernel), List.mem_of_getElem? (i := 1648) (by decide +kernel), List.mem_of_getElem? (i := 1649) (by decide +kernel)⟩
theorem lw_p99 : lw_okq (⟨"ReelChangeModel", "isGone", "(I)Z"⟩, 43) := ⟨⟨by decide +kernel, by decide +kernel⟩, List.mem_of_getElem? (i := 1250) (by decide +kernel), List.mem_of_getElem? (i := 1652) (by decide +kernel), List.mem_of_getElem? (i := 1653) (by decide +kernel)⟩
theorem lw_p100 : lw_okq (⟨"ReelChangeModel", "follows", "(IIIIZ)V"⟩, 43) := ⟨⟨by decide +kernel, by decide +kernel⟩, List.mem_of_getElem? (i := 1250) (by decide +kernel), List.mem_of_getElem? (i := 1656) (by decide +kernel), List.mem_of_getElem? (i := 1657) (by decide +kernel)⟩
theorem lw_p101 : lw_okq (⟨"ReelChangeModel", "believesOf", "(II)I"⟩, 43) := ⟨⟨by decide +kernel, by decide +kernel⟩, List.mem_of_getElem? (i := 1250) (by decide +kernel), List.mem_of_getElem? (i := 1660) (by decide +kernel), List.mem_of_getElem? (i := 1661) (by decide +kernel)⟩
theorem lw_p102 : lw_okq (⟨"ReelChangeModel", "tailOf", "(I)I"⟩, 43) := ⟨⟨by decide +kernel, by decide +kernel⟩, List.mem_of_getElem? (i := 1250) (by decide +kernel), List.mem_of_getElem? (i := 1690) (by decide +kernel), List.mem_of_getElem? (i := 1691) (by decide +kernel)⟩
theorem lw_p103 : lw_okq (⟨"ReelChangeModel", "sumOf", "(I)I"⟩, 43) := ⟨⟨by decide +kernel, by decide +kernel⟩, List.mem_of_getElem? (i := 1250) (by decide +kernel), List.mem_of_getElem? (i := 1706) (by decide +kernel), List.mem_of_getElem? (i := 1707) (by decide +kernel)⟩
theorem lw_p104 : lw_okq (⟨"ReelChangeModel", "needsOf", "(I)I"⟩, 43) := ⟨⟨by decide +kernel, by decide +kernel⟩, List.mem_of_getElem? (i := 1250) (by decide +kernel), List.mem_of_getElem? (i := 1722) (by decide +kernel), List.mem_of_getElem? (i := 1723) (by decide +kernel)⟩
theorem lw_p105 : lw_okq (⟨"ReelChangeModel", "burn", "(I)Z"⟩, 43) := ⟨⟨by decide +kernel, by decide +kernel⟩, List.mem_of_getElem? (i := 1250) (by decide +kernel), List.mem_of_getElem? (i := 1730) (by decide +kernel), List.mem_of_getElem? (i := 1731) (by decide +kernel)⟩
theorem lw_p106 : lw_okq (⟨"ReelChangeModel", "freeOf", "(I)I"⟩, 43) := ⟨⟨by decide +kernel, by decide +kernel⟩, List.mem_of_getElem? (i := 1250) (by decide +kernel), List.mem_of_getElem? (i := 1734) (by decide +kernel), List.mem_of_getElem? (i := 1735) (by decide +kernel)⟩
theorem lw_p107 : lw_okq (⟨"ReelChangeModel", "isDot", "(II)Z"⟩, 43) := ⟨⟨by decide +kernel, by decide +kernel⟩, List.mem_of_getElem? (i := 1250) (by decide +kernel), List.mem_of_getElem? (i := 1761) (by decide +kernel), List.mem_of_getElem? (i := 1762) (by decide +kernel)⟩
theorem lw_p108 : lw_okq (⟨"ReelChangeModel", "weightOf", "(II)J"⟩, 43) := ⟨⟨by decide +kernel, by decide +kernel⟩, List.mem_of_getElem? (i := 1250) (by decide +kernel), List.mem_of_getElem? (i := 1765) (by decide +kernel), List.mem_of_getElem? (i := 1766) (by decide +kernel)⟩
theorem lw_p109 : lw_okq (⟨"ReelChangeModel", "allWeights", "(I)J"⟩, 43) := ⟨⟨by decide +kernel, by decide +kernel⟩, List.mem_of_getElem? (i := 1250) (by decide +kernel), List.mem_of_getElem? (i := 1769) (by decide +kernel), List.mem_of_getElem? (i := 1770) (by decide +kernel)⟩
theorem lw_p110 : lw_okq (⟨"ReelChangeModel", "isWeak", "(I)Z"⟩, 43) := ⟨⟨by decide +kernel, by decide +kernel⟩, List.mem_of_getElem? (i := 1250) (by decide +kernel), List.mem_of_getElem? (i := 1792) (by decide +kernel), List.mem_of_getElem? (i := 1793) (by decide +kernel)⟩
theorem lw_p111 : lw_okq (⟨"ReelChangeModel", "signsOf", "(I)I"⟩, 43) := ⟨⟨by decide +kernel, by decide +kernel⟩, List.mem_of_getElem? (i := 1250) (by decide +kernel), List.mem_of_getElem? (i := 1813) (by decide +kernel), List.mem_of_getElem? (i := 1814) (by decide +kernel)⟩
def lw_privs_7 : List (MethodName × Nat) := [(⟨"ReelChangeModel", "layTold", "(I)V"⟩, 43), (⟨"ReelChangeModel", "layNight", "(I)V"⟩, 43), (⟨"ReelChangeModel", "framesAt", "(I)I"⟩, 43), (⟨"ReelChangeModel", "isGone", "(I)Z"⟩, 43), (⟨"ReelChangeModel", "follows", "(IIIIZ)V"⟩, 43), (⟨"ReelChangeModel", "believesOf", "(II)I"⟩, 43), (⟨"ReelChangeModel", "tailOf", "(I)I"⟩, 43), (⟨"ReelChangeModel", "sumOf", "(I)I"⟩, 43), (⟨"ReelChangeModel", "needsOf", "(I)I"⟩, 43), (⟨"ReelChangeModel", "burn", "(I)Z"⟩, 43), (⟨"ReelChangeModel", "freeOf", "(I)I"⟩, 43), (⟨"ReelChangeModel", "isDot", "(II)Z"⟩, 43), (⟨"ReelChangeModel", "weightOf", "(II)J"⟩, 43), (⟨"ReelChangeModel", "allWeights", "(I)J"⟩, 43), (⟨"ReelChangeModel", "isWeak", "(I)Z"⟩, 43), (⟨"ReelChangeModel", "signsOf", "(I)I"⟩, 43)]
theorem lw_r7 : ∀ q ∈ lw_privs_7, lw_okq q := List.forall_mem_cons.mpr ⟨lw_p96, List.forall_mem_cons.mpr ⟨lw_p97, List.forall_mem_cons.mpr ⟨lw_p98, List.forall_mem_cons.mpr ⟨lw_p99, List.forall_mem_cons.mpr ⟨lw_p100, List.forall_mem_cons.mpr ⟨lw_p101, List.forall_mem_cons.mpr ⟨lw_p102, List.forall_mem_cons.mpr ⟨lw_p103, List.forall_mem_cons.mpr ⟨lw_p104, List.forall_mem_cons.mpr ⟨lw_p105, List.forall_mem_cons.mpr ⟨lw_p106, List.forall_mem_cons.mpr ⟨lw_p107, List.forall_mem_cons.mpr ⟨lw_p108, List.forall_mem_cons.mpr ⟨lw_p109, List.forall_mem_cons.mpr ⟨lw_p110, List.forall_mem_cons.mpr ⟨lw_p111, fun _ h => absurd h List.not_mem_nil⟩⟩⟩⟩⟩⟩⟩⟩⟩⟩⟩⟩⟩⟩⟩⟩
theorem lw_p112 : lw_okq (⟨"ReelChangeModel", "bestSlipOf", "(I)I"⟩, 43) := ⟨⟨by decide +kernel, by decide +kernel⟩, List.mem_of_getElem? (i := 1250) (by decide +kernel), List.mem_of_getElem? (i := 1825) (by decide +kernel), List.mem_of_getElem? (i := 1826) (by decide +kernel)⟩
theorem lw_p113 : lw_okq (⟨"ReelChangeModel", "layScratch", "(I)Z"⟩, 43) := ⟨⟨by decide +kernel, by decide +kernel⟩, List.mem_of_getElem? (i := 1250) (by decide +kernel), List.mem_of_getElem? (i := 1837) (by decide +kernel), List.mem_of_getElem? (i := 1838) (by decide +kernel)⟩
theorem lw_p114 : lw_okq (⟨"ReelChangeModel", "farOf", "(II)I"⟩, 43) := ⟨⟨by decide +kernel, by decide +kernel⟩, List.mem_of_getElem? (i := 1250) (by decide +kernel), List.mem_of_getElem? (i := 1841) (by decide +kernel), List.mem_of_getElem? (i := 1842) (by decide +kernel)⟩
theorem lw_p115 : lw_okq (⟨"ReelChangeModel", "boyWhy", "(I)I"⟩, 43) := ⟨⟨by decide +kernel, by decide +kernel⟩, List.mem_of_getElem? (i := 1250) (by decide +kernel), List.mem_of_getElem? (i := 1853) (by decide +kernel), List.mem_of_getElem? (i := 1854) (by decide +kernel)⟩
theorem lw_p116 : lw_okq (⟨"ReelChangeModel", "apartOf", "(II)I"⟩, 43) := ⟨⟨by decide +kernel, by decide +kernel⟩, List.mem_of_getElem? (i := 1250) (by decide +kernel), List.mem_of_getElem? (i := 1857) (by decide +kernel), List.mem_of_getElem? (i := 1858) (by decide +kernel)⟩
theorem lw_p117 : lw_okq (⟨"ReelChangeModel", "carry", "(II)V"⟩, 43) := ⟨⟨by decide +kernel, by decide +kernel⟩, List.mem_of_getElem? (i := 1250) (by decide +kernel), List.mem_of_getElem? (i := 1861) (by decide +kernel), List.mem_of_getElem? (i := 1862) (by decide +kernel)⟩
theorem lw_p118 : lw_okq (⟨"ReelChangeModel", "laySorted", "()V"⟩, 43) := ⟨⟨by decide +kernel, by decide +kernel⟩, List.mem_of_getElem? (i := 1250) (by decide +kernel), List.mem_of_getElem? (i := 1885) (by decide +kernel), List.mem_of_getElem? (i := 1886) (by decide +kernel)⟩
theorem lw_p119 : lw_okq (⟨"ReelChangeModel", "isEven", "(I)Z"⟩, 43) := ⟨⟨by decide +kernel, by decide +kernel⟩, List.mem_of_getElem? (i := 1250) (by decide +kernel), List.mem_of_getElem? (i := 1889) (by decide +kernel), List.mem_of_getElem? (i := 1890) (by decide +kernel)⟩
theorem lw_p120 : lw_okq (⟨"ReelChangeModel", "drawNight", "(I)V"⟩, 43) := ⟨⟨by decide +kernel, by decide +kernel⟩, List.mem_of_getElem? (i := 1250) (by decide +kernel), List.mem_of_getElem? (i := 1898) (by decide +kernel), List.mem_of_getElem? (i := 1899) (by decide +kernel)⟩
theorem lw_p121 : lw_okq (⟨"ReelChangeModel", "drawn", "()I"⟩, 43) := ⟨⟨by decide +kernel, by decide +kernel⟩, List.mem_of_getElem? (i := 1250) (by decide +kernel), List.mem_of_getElem? (i := 1902) (by decide +kernel), List.mem_of_getElem? (i := 1903) (by decide +kernel)⟩
theorem lw_p122 : lw_okq (⟨"ReelChangeModel", "isNot", "(I)Z"⟩, 43) := ⟨⟨by decide +kernel, by decide +kernel⟩, List.mem_of_getElem? (i := 1250) (by decide +kernel), List.mem_of_getElem? (i := 1916) (by decide +kernel), List.mem_of_getElem? (i := 1917) (by decide +kernel)⟩
theorem lw_p123 : lw_okq (⟨"ReelChangeModel", "note", "()V"⟩, 43) := ⟨⟨by decide +kernel, by decide +kernel⟩, List.mem_of_getElem? (i := 1250) (by decide +kernel), List.mem_of_getElem? (i := 1920) (by decide +kernel), List.mem_of_getElem? (i := 1921) (by decide +kernel)⟩
def lw_privs_8 : List (MethodName × Nat) := [(⟨"ReelChangeModel", "bestSlipOf", "(I)I"⟩, 43), (⟨"ReelChangeModel", "layScratch", "(I)Z"⟩, 43), (⟨"ReelChangeModel", "farOf", "(II)I"⟩, 43), (⟨"ReelChangeModel", "boyWhy", "(I)I"⟩, 43), (⟨"ReelChangeModel", "apartOf", "(II)I"⟩, 43), (⟨"ReelChangeModel", "carry", "(II)V"⟩, 43), (⟨"ReelChangeModel", "laySorted", "()V"⟩, 43), (⟨"ReelChangeModel", "isEven", "(I)Z"⟩, 43), (⟨"ReelChangeModel", "drawNight", "(I)V"⟩, 43), (⟨"ReelChangeModel", "drawn", "()I"⟩, 43), (⟨"ReelChangeModel", "isNot", "(I)Z"⟩, 43), (⟨"ReelChangeModel", "note", "()V"⟩, 43)]
theorem lw_r8 : ∀ q ∈ lw_privs_8, lw_okq q := List.forall_mem_cons.mpr ⟨lw_p112, List.forall_mem_cons.mpr ⟨lw_p113, List.forall_mem_cons.mpr ⟨lw_p114, List.forall_mem_cons.mpr ⟨lw_p115, List.forall_mem_cons.mpr ⟨lw_p116, List.forall_mem_cons.mpr ⟨lw_p117, List.forall_mem_cons.mpr ⟨lw_p118, List.forall_mem_cons.mpr ⟨lw_p119, List.forall_mem_cons.mpr ⟨lw_p120, List.forall_mem_cons.mpr ⟨lw_p121, List.forall_mem_cons.mpr ⟨lw_p122, List.forall_mem_cons.mpr ⟨lw_p123, fun _ h => absurd h List.not_mem_nil⟩⟩⟩⟩⟩⟩⟩⟩⟩⟩⟩⟩
def lw_privs : List (MethodName × Nat) := lw_privs_1 ++ (lw_privs_2 ++ (lw_privs_3 ++ (lw_privs_4 ++ (lw_privs_5 ++ (lw_privs_6 ++ (lw_privs_7 ++ (lw_privs_8)))))))
def lw_tbl : List Cond := k2_sels lw_privs ++ tables_1
theorem lw_privs_ok : ∀ q ∈ lw_privs, lw_okq q := by
  show ∀ q ∈ lw_privs_1 ++ (lw_privs_2 ++ (lw_privs_3 ++ (lw_privs_4 ++ (lw_privs_5 ++ (lw_privs_6 ++ (lw_privs_7 ++ (lw_privs_8))))))), lw_okq q
  exact List.forall_mem_append.mpr ⟨lw_r1, List.forall_mem_append.mpr ⟨lw_r2, List.forall_mem_append.mpr ⟨lw_r3, List.forall_mem_append.mpr ⟨lw_r4, List.forall_mem_append.mpr ⟨lw_r5, List.forall_mem_append.mpr ⟨lw_r6, List.forall_mem_append.mpr ⟨lw_r7, lw_r8⟩⟩⟩⟩⟩⟩⟩
theorem goodIn_r {big : List Cond} (ws : List Cond) (ps : List Nat) (hp : ws = ps.filterMap (fun i => big[i]?)) (h : ws.all goodWord = true) : GoodIn big ws := by
  intro w hw
  have h1 := List.all_eq_true.mp h w hw
  rw [hp] at hw
  obtain ⟨i, -, hi⟩ := List.mem_filterMap.mp hw
  have hm : w ∈ big := by first | exact List.mem_of_getElem? hi | exact List.getElem?_mem hi
  exact ⟨hm, good_of_word h1⟩
theorem goodIn_app {big a b : List Cond} (ha : GoodIn big a) (hb : GoodIn big b) : GoodIn big (a ++ b) := fun w h => (List.mem_append.mp h).elim (ha w) (hb w)
def RX0 : String := "ReelChange$Arcs"
def TX0 : u_T := fun k => match k with
  | 0 => ("ReelChange$Arcs", "left", "LReelChange$Table;", true)
  | _ => ("ReelChange$Arcs", "dying", "I", false)
def tyX0 : Nat → FieldType := fun k => match k with
  | 0 => .object "ReelChange$Table"
  | _ => .int
abbrev wsX00 : List Cond := u_ws RX0 TX0 2
theorem nmX0 : ∀ a, a < 2 → ∀ b, b < 2 → a ≠ b → (TX0 a).2.1 ≠ (TX0 b).2.1 := by decide +kernel
theorem tyX0_ok : ∀ k, k < 2 → parseFieldDescriptor (TX0 k).2.2.1 = some (tyX0 k) := by decide +kernel
abbrev cX0_init : ByteArray := prog_2_method_1_code
def yX0_init : MethodName := ⟨RX0, "<init>", "()V"⟩
abbrev cX0_burn : ByteArray := prog_2_method_2_code
def yX0_burn : MethodName := ⟨RX0, "burn", "(LReelChange$House;LReelChange$Night;I)V"⟩
abbrev cX0_firstDying : ByteArray := prog_2_method_3_code
def yX0_firstDying : MethodName := ⟨RX0, "firstDying", "()I"⟩
abbrev cX0_fewestTrims : ByteArray := prog_2_method_4_code
def yX0_fewestTrims : MethodName := ⟨RX0, "fewestTrims", "(LReelChange$House;LReelChange$Night;)I"⟩
def RX1 : String := "ReelChange$Exchanger"
def TX1 : u_T := fun k => match k with
  | 0 => ("ReelChange$Exchanger", "inOrder", "LReelChange$Table;", true)
  | 1 => ("ReelChange$Exchanger", "parts", "LReelChange$Table;", true)
  | _ => ("ReelChange$Exchanger", "surplus", "[J", true)
def tyX1 : Nat → FieldType := fun k => match k with
  | 0 => .object "ReelChange$Table"
  | 1 => .object "ReelChange$Table"
  | _ => .array .long
abbrev wsX10 : List Cond := u_ws RX1 TX1 3
theorem nmX1 : ∀ a, a < 3 → ∀ b, b < 3 → a ≠ b → (TX1 a).2.1 ≠ (TX1 b).2.1 := by decide +kernel
theorem tyX1_ok : ∀ k, k < 3 → parseFieldDescriptor (TX1 k).2.2.1 = some (tyX1 k) := by decide +kernel
abbrev cX1_init : ByteArray := prog_3_method_1_code
def yX1_init : MethodName := ⟨RX1, "<init>", "()V"⟩
abbrev cX1_wrongPlaces : ByteArray := prog_3_method_2_code
def yX1_wrongPlaces : MethodName := ⟨RX1, "wrongPlaces", "(LReelChange$State;)I"⟩
abbrev cX1_fewest : ByteArray := prog_3_method_3_code
def yX1_fewest : MethodName := ⟨RX1, "fewest", "(LReelChange$State;)I"⟩
abbrev cX1_sort : ByteArray := prog_3_method_4_code
def yX1_sort : MethodName := ⟨RX1, "sort", "(LReelChange$State;)V"⟩
abbrev cX1_weigh : ByteArray := prog_3_method_5_code
def yX1_weigh : MethodName := ⟨RX1, "weigh", "(LReelChange$State;)V"⟩
abbrev cX1_unit : ByteArray := prog_3_method_6_code
def yX1_unit : MethodName := ⟨RX1, "unit", "(I)J"⟩
def RX2 : String := "ReelChange$Fraction"
def TX2 : u_T := fun k => match k with
  | 0 => ("ReelChange$Fraction", "upper", "J", false)
  | _ => ("ReelChange$Fraction", "lower", "J", false)
def tyX2 : Nat → FieldType := fun k => match k with
  | 0 => .long
  | _ => .long
abbrev wsX20 : List Cond := u_ws RX2 TX2 2
theorem nmX2 : ∀ a, a < 2 → ∀ b, b < 2 → a ≠ b → (TX2 a).2.1 ≠ (TX2 b).2.1 := by decide +kernel
theorem tyX2_ok : ∀ k, k < 2 → parseFieldDescriptor (TX2 k).2.2.1 = some (tyX2 k) := by decide +kernel
abbrev cX2_init : ByteArray := prog_4_method_1_code
def yX2_init : MethodName := ⟨RX2, "<init>", "()V"⟩
abbrev cX2_set : ByteArray := prog_4_method_2_code
def yX2_set : MethodName := ⟨RX2, "set", "(JJ)V"⟩
abbrev cX2_setPower : ByteArray := prog_4_method_3_code
def yX2_setPower : MethodName := ⟨RX2, "setPower", "(III)V"⟩
abbrev cX2_reduce : ByteArray := prog_4_method_4_code
def yX2_reduce : MethodName := ⟨RX2, "reduce", "()V"⟩
def RX3 : String := "ReelChange$House"
def TX3 : u_T := fun k => match k with
  | 0 => ("ReelChange$House", "atFirst", "LReelChange$State;", true)
  | 1 => ("ReelChange$House", "numbers", "LReelChange$Table;", true)
  | 2 => ("ReelChange$House", "towns", "LReelChange$Table;", true)
  | 3 => ("ReelChange$House", "joins", "LReelChange$Table;", true)
  | 4 => ("ReelChange$House", "men", "LReelChange$Table;", true)
  | 5 => ("ReelChange$House", "boys", "LReelChange$Table;", true)
  | 6 => ("ReelChange$House", "signs", "LReelChange$Table;", true)
  | _ => ("ReelChange$House", "scratches", "LReelChange$Table;", true)
def tyX3 : Nat → FieldType := fun k => match k with
  | 0 => .object "ReelChange$State"
  | 1 => .object "ReelChange$Table"
  | 2 => .object "ReelChange$Table"
  | 3 => .object "ReelChange$Table"
  | 4 => .object "ReelChange$Table"
  | 5 => .object "ReelChange$Table"
  | 6 => .object "ReelChange$Table"
  | _ => .object "ReelChange$Table"
abbrev wsX30 : List Cond := u_ws RX3 TX3 8
theorem nmX3 : ∀ a, a < 8 → ∀ b, b < 8 → a ≠ b → (TX3 a).2.1 ≠ (TX3 b).2.1 := by decide +kernel
theorem tyX3_ok : ∀ k, k < 8 → parseFieldDescriptor (TX3 k).2.2.1 = some (tyX3 k) := by decide +kernel
abbrev cX3_init : ByteArray := prog_5_method_1_code
def yX3_init : MethodName := ⟨RX3, "<init>", "()V"⟩
abbrev cX3_number : ByteArray := prog_5_method_2_code
def yX3_number : MethodName := ⟨RX3, "number", "(I)I"⟩
abbrev cX3_clear : ByteArray := prog_5_method_3_code
def yX3_clear : MethodName := ⟨RX3, "clear", "()V"⟩
abbrev cX3_copyFrom : ByteArray := prog_5_method_4_code
def yX3_copyFrom : MethodName := ⟨RX3, "copyFrom", "(LReelChange$House;)V"⟩
def RX4 : String := "ReelChange$Kept"
def TX4 : u_T := fun k => match k with
  | 0 => ("ReelChange$Kept", "ahead", "[LReelChange$State;", true)
  | 1 => ("ReelChange$Kept", "images", "[LReelChange$State;", true)
  | 2 => ("ReelChange$Kept", "acts", "I", false)
  | 3 => ("ReelChange$Kept", "next", "I", false)
  | _ => ("ReelChange$Kept", "imaged", "I", false)
def tyX4 : Nat → FieldType := fun k => match k with
  | 0 => .array (.object "ReelChange$State")
  | 1 => .array (.object "ReelChange$State")
  | 2 => .int
  | 3 => .int
  | _ => .int
abbrev wsX40 : List Cond := u_ws RX4 TX4 5
theorem nmX4 : ∀ a, a < 5 → ∀ b, b < 5 → a ≠ b → (TX4 a).2.1 ≠ (TX4 b).2.1 := by decide +kernel
theorem tyX4_ok : ∀ k, k < 5 → parseFieldDescriptor (TX4 k).2.2.1 = some (tyX4 k) := by decide +kernel
abbrev cX4_init : ByteArray := prog_6_method_1_code
def yX4_init : MethodName := ⟨RX4, "<init>", "()V"⟩
abbrev cX4_forget : ByteArray := prog_6_method_2_code
def yX4_forget : MethodName := ⟨RX4, "forget", "()V"⟩
abbrev cX4_keep : ByteArray := prog_6_method_3_code
def yX4_keep : MethodName := ⟨RX4, "keep", "(LReelChange$State;)V"⟩
abbrev cX4_takeBack : ByteArray := prog_6_method_4_code
def yX4_takeBack : MethodName := ⟨RX4, "takeBack", "(LReelChange$State;)Z"⟩
abbrev cX4_takeImage : ByteArray := prog_6_method_5_code
def yX4_takeImage : MethodName := ⟨RX4, "takeImage", "(LReelChange$State;)I"⟩
abbrev cX4_goBack : ByteArray := prog_6_method_6_code
def yX4_goBack : MethodName := ⟨RX4, "goBack", "(ILReelChange$State;)Z"⟩
abbrev cX4_slot : ByteArray := prog_6_method_7_code
def yX4_slot : MethodName := ⟨RX4, "slot", "([LReelChange$State;I)LReelChange$State;"⟩
def RX5 : String := "ReelChange$Night"
def TX5 : u_T := fun k => match k with
  | 0 => ("ReelChange$Night", "rows", "LReelChange$Table;", true)
  | 1 => ("ReelChange$Night", "snapped", "I", false)
  | 2 => ("ReelChange$Night", "mostSlip", "I", false)
  | 3 => ("ReelChange$Night", "slip", "I", false)
  | 4 => ("ReelChange$Night", "isDrawn", "Z", false)
  | 5 => ("ReelChange$Night", "seed", "I", false)
  | 6 => ("ReelChange$Night", "tick", "I", false)
  | 7 => ("ReelChange$Night", "motorTick", "I", false)
  | _ => ("ReelChange$Night", "ahead", "I", false)
def tyX5 : Nat → FieldType := fun k => match k with
  | 0 => .object "ReelChange$Table"
  | 1 => .int
  | 2 => .int
  | 3 => .int
  | 4 => .boolean
  | 5 => .int
  | 6 => .int
  | 7 => .int
  | _ => .int
abbrev wsX50 : List Cond := u_ws RX5 TX5 9
theorem nmX5 : ∀ a, a < 9 → ∀ b, b < 9 → a ≠ b → (TX5 a).2.1 ≠ (TX5 b).2.1 := by decide +kernel
theorem tyX5_ok : ∀ k, k < 9 → parseFieldDescriptor (TX5 k).2.2.1 = some (tyX5 k) := by decide +kernel
abbrev cX5_init : ByteArray := prog_7_method_1_code
def yX5_init : MethodName := ⟨RX5, "<init>", "()V"⟩
abbrev cX5_meet : ByteArray := prog_7_method_2_code
def yX5_meet : MethodName := ⟨RX5, "meet", "(LReelChange$House;LReelChange$State;I)V"⟩
abbrev cX5_slipBy : ByteArray := prog_7_method_3_code
def yX5_slipBy : MethodName := ⟨RX5, "slipBy", "(I)V"⟩
abbrev cX5_drawBy : ByteArray := prog_7_method_4_code
def yX5_drawBy : MethodName := ⟨RX5, "drawBy", "(I)V"⟩
abbrev cX5_run : ByteArray := prog_7_method_5_code
def yX5_run : MethodName := ⟨RX5, "run", "(LReelChange$House;LReelChange$State;)V"⟩
abbrev cX5_goBy : ByteArray := prog_7_method_6_code
def yX5_goBy : MethodName := ⟨RX5, "goBy", "(II)V"⟩
abbrev cX5_showReel : ByteArray := prog_7_method_7_code
def yX5_showReel : MethodName := ⟨RX5, "showReel", "(LReelChange$House;LReelChange$State;II)V"⟩
abbrev cX5_slipNow : ByteArray := prog_7_method_8_code
def yX5_slipNow : MethodName := ⟨RX5, "slipNow", "()I"⟩
abbrev cX5_snapWeakPlaces : ByteArray := prog_7_method_9_code
def yX5_snapWeakPlaces : MethodName := ⟨RX5, "snapWeakPlaces", "(LReelChange$House;LReelChange$State;I)V"⟩
abbrev cX5_draw : ByteArray := prog_7_method_10_code
def yX5_draw : MethodName := ⟨RX5, "draw", "()I"⟩
abbrev cX5_sum : ByteArray := prog_7_method_11_code
def yX5_sum : MethodName := ⟨RX5, "sum", "(I)I"⟩
abbrev cX5_waste : ByteArray := prog_7_method_12_code
def yX5_waste : MethodName := ⟨RX5, "waste", "()I"⟩
abbrev cX5_endTick : ByteArray := prog_7_method_13_code
def yX5_endTick : MethodName := ⟨RX5, "endTick", "()I"⟩
abbrev cX5_worstChange : ByteArray := prog_7_method_14_code
def yX5_worstChange : MethodName := ⟨RX5, "worstChange", "()I"⟩
abbrev cX5_exactThread : ByteArray := prog_7_method_15_code
def yX5_exactThread : MethodName := ⟨RX5, "exactThread", "(LReelChange$House;I)I"⟩
abbrev cX5_signsSo : ByteArray := prog_7_method_16_code
def yX5_signsSo : MethodName := ⟨RX5, "signsSo", "(LReelChange$House;)I"⟩
abbrev cX5_needed : ByteArray := prog_7_method_17_code
def yX5_needed : MethodName := ⟨RX5, "needed", "(I)I"⟩
abbrev cX5_idle : ByteArray := prog_7_method_18_code
def yX5_idle : MethodName := ⟨RX5, "idle", "(I)I"⟩
def RX6 : String := "ReelChange$Riders"
def TX6 : u_T := fun k => match k with
  | 0 => ("ReelChange$Riders", "backAt", "LReelChange$Table;", true)
  | 1 => ("ReelChange$Riders", "apartNeeded", "I", false)
  | _ => ("ReelChange$Riders", "waited", "I", false)
def tyX6 : Nat → FieldType := fun k => match k with
  | 0 => .object "ReelChange$Table"
  | 1 => .int
  | _ => .int
abbrev wsX60 : List Cond := u_ws RX6 TX6 3
theorem nmX6 : ∀ a, a < 3 → ∀ b, b < 3 → a ≠ b → (TX6 a).2.1 ≠ (TX6 b).2.1 := by decide +kernel
theorem tyX6_ok : ∀ k, k < 3 → parseFieldDescriptor (TX6 k).2.2.1 = some (tyX6 k) := by decide +kernel
abbrev cX6_init : ByteArray := prog_8_method_1_code
def yX6_init : MethodName := ⟨RX6, "<init>", "()V"⟩
abbrev cX6_carry : ByteArray := prog_8_method_2_code
def yX6_carry : MethodName := ⟨RX6, "carry", "(LReelChange$Night;III)V"⟩
abbrev cX6_soonestBack : ByteArray := prog_8_method_3_code
def yX6_soonestBack : MethodName := ⟨RX6, "soonestBack", "(I)I"⟩
def RX7 : String := "ReelChange$State"
def TX7 : u_T := fun k => match k with
  | 0 => ("ReelChange$State", "reels", "LReelChange$Table;", true)
  | 1 => ("ReelChange$State", "marks", "LReelChange$Table;", true)
  | 2 => ("ReelChange$State", "weaks", "LReelChange$Table;", true)
  | 3 => ("ReelChange$State", "places", "LReelChange$Table;", true)
  | 4 => ("ReelChange$State", "mended", "I", false)
  | _ => ("ReelChange$State", "trims", "I", false)
def tyX7 : Nat → FieldType := fun k => match k with
  | 0 => .object "ReelChange$Table"
  | 1 => .object "ReelChange$Table"
  | 2 => .object "ReelChange$Table"
  | 3 => .object "ReelChange$Table"
  | 4 => .int
  | _ => .int
abbrev wsX70 : List Cond := u_ws RX7 TX7 6
theorem nmX7 : ∀ a, a < 6 → ∀ b, b < 6 → a ≠ b → (TX7 a).2.1 ≠ (TX7 b).2.1 := by decide +kernel
theorem tyX7_ok : ∀ k, k < 6 → parseFieldDescriptor (TX7 k).2.2.1 = some (tyX7 k) := by decide +kernel
abbrev cX7_init : ByteArray := prog_9_method_1_code
def yX7_init : MethodName := ⟨RX7, "<init>", "()V"⟩
abbrev cX7_clear : ByteArray := prog_9_method_2_code
def yX7_clear : MethodName := ⟨RX7, "clear", "()V"⟩
abbrev cX7_copyFrom : ByteArray := prog_9_method_3_code
def yX7_copyFrom : MethodName := ⟨RX7, "copyFrom", "(LReelChange$State;)V"⟩
abbrev cX7_reelAt : ByteArray := prog_9_method_4_code
def yX7_reelAt : MethodName := ⟨RX7, "reelAt", "(I)I"⟩
abbrev cX7_isWeak : ByteArray := prog_9_method_5_code
def yX7_isWeak : MethodName := ⟨RX7, "isWeak", "(I)Z"⟩
abbrev cX7_mendedOn : ByteArray := prog_9_method_6_code
def yX7_mendedOn : MethodName := ⟨RX7, "mendedOn", "(I)I"⟩
abbrev cX7_markBy : ByteArray := prog_9_method_7_code
def yX7_markBy : MethodName := ⟨RX7, "markBy", "(II)I"⟩
abbrev cX7_believedBy : ByteArray := prog_9_method_8_code
def yX7_believedBy : MethodName := ⟨RX7, "believedBy", "(LReelChange$Table;II)I"⟩
abbrev cX7_isMeantPerhaps : ByteArray := prog_9_method_9_code
def yX7_isMeantPerhaps : MethodName := ⟨RX7, "isMeantPerhaps", "(II)Z"⟩
abbrev cX7_isMarked : ByteArray := prog_9_method_10_code
def yX7_isMarked : MethodName := ⟨RX7, "isMarked", "(III)Z"⟩
abbrev cX7_weight : ByteArray := prog_9_method_11_code
def yX7_weight : MethodName := ⟨RX7, "weight", "(LReelChange$Table;II)I"⟩
abbrev cX7_allWeights : ByteArray := prog_9_method_12_code
def yX7_allWeights : MethodName := ⟨RX7, "allWeights", "(LReelChange$Table;I)I"⟩
abbrev cX7_likeliestFrame : ByteArray := prog_9_method_13_code
def yX7_likeliestFrame : MethodName := ⟨RX7, "likeliestFrame", "(LReelChange$Table;I)I"⟩
abbrev cX7_cutOut : ByteArray := prog_9_method_14_code
def yX7_cutOut : MethodName := ⟨RX7, "cutOut", "(I)V"⟩
abbrev cX7_pull : ByteArray := prog_9_method_15_code
def yX7_pull : MethodName := ⟨RX7, "pull", "(LReelChange$Table;III)V"⟩
abbrev cX7_sooner : ByteArray := prog_9_method_16_code
def yX7_sooner : MethodName := ⟨RX7, "sooner", "(III)I"⟩
def RX8 : String := "ReelChange$Table"
def TX8 : u_T := fun k => match k with
  | 0 => ("ReelChange$Table", "room", "I", true)
  | 1 => ("ReelChange$Table", "width", "I", true)
  | 2 => ("ReelChange$Table", "cells", "[I", true)
  | _ => ("ReelChange$Table", "count", "I", false)
def tyX8 : Nat → FieldType := fun k => match k with
  | 0 => .int
  | 1 => .int
  | 2 => .array .int
  | _ => .int
abbrev wsX80 : List Cond := u_ws RX8 TX8 4
theorem nmX8 : ∀ a, a < 4 → ∀ b, b < 4 → a ≠ b → (TX8 a).2.1 ≠ (TX8 b).2.1 := by decide +kernel
theorem tyX8_ok : ∀ k, k < 4 → parseFieldDescriptor (TX8 k).2.2.1 = some (tyX8 k) := by decide +kernel
abbrev cX8_init : ByteArray := prog_10_method_1_code
def yX8_init : MethodName := ⟨RX8, "<init>", "(II)V"⟩
abbrev cX8_has : ByteArray := prog_10_method_2_code
def yX8_has : MethodName := ⟨RX8, "has", "(I)Z"⟩
abbrev cX8_isFull : ByteArray := prog_10_method_3_code
def yX8_isFull : MethodName := ⟨RX8, "isFull", "()Z"⟩
abbrev cX8_clear : ByteArray := prog_10_method_4_code
def yX8_clear : MethodName := ⟨RX8, "clear", "()V"⟩
abbrev cX8_at : ByteArray := prog_10_method_5_code
def yX8_at : MethodName := ⟨RX8, "at", "(II)I"⟩
abbrev cX8_put : ByteArray := prog_10_method_6_code
def yX8_put : MethodName := ⟨RX8, "put", "(III)V"⟩
abbrev cX8_add : ByteArray := prog_10_method_7_code
def yX8_add : MethodName := ⟨RX8, "add", "(III)V"⟩
abbrev cX8_howMany : ByteArray := prog_10_method_8_code
def yX8_howMany : MethodName := ⟨RX8, "howMany", "(II)I"⟩
abbrev cX8_copyFrom : ByteArray := prog_10_method_9_code
def yX8_copyFrom : MethodName := ⟨RX8, "copyFrom", "(LReelChange$Table;)V"⟩
def RX9 : String := "ReelChange$Text"
def TX9 : u_T := fun k => match k with
  | 0 => ("ReelChange$Text", "taped", "I", false)
  | 1 => ("ReelChange$Text", "house", "LReelChange$House;", true)
  | 2 => ("ReelChange$Text", "faultNumber", "I", false)
  | 3 => ("ReelChange$Text", "faultPlace", "I", false)
  | 4 => ("ReelChange$Text", "tape", "[B", true)
  | 5 => ("ReelChange$Text", "end", "I", false)
  | 6 => ("ReelChange$Text", "names", "[J", true)
  | 7 => ("ReelChange$Text", "named", "LReelChange$Table;", true)
  | 8 => ("ReelChange$Text", "kind", "I", false)
  | 9 => ("ReelChange$Text", "start", "I", false)
  | 10 => ("ReelChange$Text", "position", "I", false)
  | 11 => ("ReelChange$Text", "value", "I", false)
  | 12 => ("ReelChange$Text", "letters", "J", false)
  | 13 => ("ReelChange$Text", "taken", "I", false)
  | _ => ("ReelChange$Text", "takenAt", "I", false)
def tyX9 : Nat → FieldType := fun k => match k with
  | 0 => .int
  | 1 => .object "ReelChange$House"
  | 2 => .int
  | 3 => .int
  | 4 => .array .byte
  | 5 => .int
  | 6 => .array .long
  | 7 => .object "ReelChange$Table"
  | 8 => .int
  | 9 => .int
  | 10 => .int
  | 11 => .int
  | 12 => .long
  | 13 => .int
  | _ => .int
abbrev wsX90 : List Cond := u_ws RX9 TX9 15
theorem nmX9 : ∀ a, a < 15 → ∀ b, b < 15 → a ≠ b → (TX9 a).2.1 ≠ (TX9 b).2.1 := by decide +kernel
theorem tyX9_ok : ∀ k, k < 15 → parseFieldDescriptor (TX9 k).2.2.1 = some (tyX9 k) := by decide +kernel
abbrev cX9_init : ByteArray := prog_11_method_1_code
def yX9_init : MethodName := ⟨RX9, "<init>", "()V"⟩
abbrev cX9_write : ByteArray := prog_11_method_2_code
def yX9_write : MethodName := ⟨RX9, "write", "(I)V"⟩
abbrev cX9_read : ByteArray := prog_11_method_3_code
def yX9_read : MethodName := ⟨RX9, "read", "(I)V"⟩
abbrev cX9_isFollowed : ByteArray := prog_11_method_4_code
def yX9_isFollowed : MethodName := ⟨RX9, "isFollowed", "()Z"⟩
abbrev cX9_refuseAt : ByteArray := prog_11_method_5_code
def yX9_refuseAt : MethodName := ⟨RX9, "refuseAt", "(II)Z"⟩
abbrev cX9_isLine : ByteArray := prog_11_method_6_code
def yX9_isLine : MethodName := ⟨RX9, "isLine", "()Z"⟩
abbrev cX9_isHouseLine : ByteArray := prog_11_method_7_code
def yX9_isHouseLine : MethodName := ⟨RX9, "isHouseLine", "()Z"⟩
abbrev cX9_isNumber : ByteArray := prog_11_method_8_code
def yX9_isNumber : MethodName := ⟨RX9, "isNumber", "(Ljava/lang/String;III)Z"⟩
abbrev cX9_isReelLine : ByteArray := prog_11_method_9_code
def yX9_isReelLine : MethodName := ⟨RX9, "isReelLine", "()Z"⟩
abbrev cX9_isTownLine : ByteArray := prog_11_method_10_code
def yX9_isTownLine : MethodName := ⟨RX9, "isTownLine", "()Z"⟩
abbrev cX9_isMarkLine : ByteArray := prog_11_method_11_code
def yX9_isMarkLine : MethodName := ⟨RX9, "isMarkLine", "()Z"⟩
abbrev cX9_isJoinLine : ByteArray := prog_11_method_12_code
def yX9_isJoinLine : MethodName := ⟨RX9, "isJoinLine", "()Z"⟩
abbrev cX9_isWeakLine : ByteArray := prog_11_method_13_code
def yX9_isWeakLine : MethodName := ⟨RX9, "isWeakLine", "()Z"⟩
abbrev cX9_isManLine : ByteArray := prog_11_method_14_code
def yX9_isManLine : MethodName := ⟨RX9, "isManLine", "()Z"⟩
abbrev cX9_kindOfMan : ByteArray := prog_11_method_15_code
def yX9_kindOfMan : MethodName := ⟨RX9, "kindOfMan", "()I"⟩
abbrev cX9_isShowsLine : ByteArray := prog_11_method_16_code
def yX9_isShowsLine : MethodName := ⟨RX9, "isShowsLine", "()Z"⟩
abbrev cX9_isBoysLine : ByteArray := prog_11_method_17_code
def yX9_isBoysLine : MethodName := ⟨RX9, "isBoysLine", "()Z"⟩
abbrev cX9_isSeenLine : ByteArray := prog_11_method_18_code
def yX9_isSeenLine : MethodName := ⟨RX9, "isSeenLine", "()Z"⟩
abbrev cX9_isScratchLine : ByteArray := prog_11_method_19_code
def yX9_isScratchLine : MethodName := ⟨RX9, "isScratchLine", "()Z"⟩
abbrev cX9_hasRoom : ByteArray := prog_11_method_20_code
def yX9_hasRoom : MethodName := ⟨RX9, "hasRoom", "(LReelChange$Table;)Z"⟩
abbrev cX9_isLabel : ByteArray := prog_11_method_21_code
def yX9_isLabel : MethodName := ⟨RX9, "isLabel", "(Ljava/lang/String;)Z"⟩
abbrev cX9_lastFrame : ByteArray := prog_11_method_22_code
def yX9_lastFrame : MethodName := ⟨RX9, "lastFrame", "(I)I"⟩
abbrev cX9_isWhole : ByteArray := prog_11_method_23_code
def yX9_isWhole : MethodName := ⟨RX9, "isWhole", "(II)Z"⟩
abbrev cX9_isNewName : ByteArray := prog_11_method_24_code
def yX9_isNewName : MethodName := ⟨RX9, "isNewName", "(II)Z"⟩
abbrev cX9_isOldName : ByteArray := prog_11_method_25_code
def yX9_isOldName : MethodName := ⟨RX9, "isOldName", "(I)Z"⟩
abbrev cX9_findName : ByteArray := prog_11_method_26_code
def yX9_findName : MethodName := ⟨RX9, "findName", "()I"⟩
abbrev cX9_isReserved : ByteArray := prog_11_method_27_code
def yX9_isReserved : MethodName := ⟨RX9, "isReserved", "()Z"⟩
abbrev cX9_is : ByteArray := prog_11_method_28_code
def yX9_is : MethodName := ⟨RX9, "is", "(Ljava/lang/String;)Z"⟩
abbrev cX9_next : ByteArray := prog_11_method_29_code
def yX9_next : MethodName := ⟨RX9, "next", "()V"⟩
abbrev cX9_kindAt : ByteArray := prog_11_method_30_code
def yX9_kindAt : MethodName := ⟨RX9, "kindAt", "(I)I"⟩
def RX10 : String := "ReelChange"
def TX10 : u_T := fun k => match k with
  | 0 => ("ReelChange", "text", "LReelChange$Text;", true)
  | 1 => ("ReelChange", "told", "LReelChange$House;", true)
  | 2 => ("ReelChange", "now", "LReelChange$State;", true)
  | 3 => ("ReelChange", "kept", "LReelChange$Kept;", true)
  | 4 => ("ReelChange", "night", "LReelChange$Night;", true)
  | 5 => ("ReelChange", "arcs", "LReelChange$Arcs;", true)
  | 6 => ("ReelChange", "riders", "LReelChange$Riders;", true)
  | 7 => ("ReelChange", "exchanger", "LReelChange$Exchanger;", true)
  | 8 => ("ReelChange", "fraction", "LReelChange$Fraction;", true)
  | _ => ("ReelChange", "latestTrouble", "I", false)
def tyX10 : Nat → FieldType := fun k => match k with
  | 0 => .object "ReelChange$Text"
  | 1 => .object "ReelChange$House"
  | 2 => .object "ReelChange$State"
  | 3 => .object "ReelChange$Kept"
  | 4 => .object "ReelChange$Night"
  | 5 => .object "ReelChange$Arcs"
  | 6 => .object "ReelChange$Riders"
  | 7 => .object "ReelChange$Exchanger"
  | 8 => .object "ReelChange$Fraction"
  | _ => .int
abbrev wsX100 : List Cond := u_ws RX10 TX10 10
theorem nmX10 : ∀ a, a < 10 → ∀ b, b < 10 → a ≠ b → (TX10 a).2.1 ≠ (TX10 b).2.1 := by decide +kernel
theorem tyX10_ok : ∀ k, k < 10 → parseFieldDescriptor (TX10 k).2.2.1 = some (tyX10 k) := by decide +kernel
abbrev cX10_init : ByteArray := prog_1_method_1_code
def yX10_init : MethodName := ⟨RX10, "<init>", "()V"⟩
abbrev cX10_feed : ByteArray := prog_1_method_2_code
def yX10_feed : MethodName := ⟨RX10, "feed", "(IIIII)I"⟩
abbrev cX10_house : ByteArray := prog_1_method_3_code
def yX10_house : MethodName := ⟨RX10, "house", "(I)I"⟩
abbrev cX10_fault : ByteArray := prog_1_method_4_code
def yX10_fault : MethodName := ⟨RX10, "fault", "()I"⟩
abbrev cX10_where : ByteArray := prog_1_method_5_code
def yX10_where : MethodName := ⟨RX10, "where", "()I"⟩
abbrev cX10_reel : ByteArray := prog_1_method_6_code
def yX10_reel : MethodName := ⟨RX10, "reel", "(II)I"⟩
abbrev cX10_mark : ByteArray := prog_1_method_7_code
def yX10_mark : MethodName := ⟨RX10, "mark", "(II)I"⟩
abbrev cX10_shows : ByteArray := prog_1_method_8_code
def yX10_shows : MethodName := ⟨RX10, "shows", "(I)I"⟩
abbrev cX10_thread : ByteArray := prog_1_method_9_code
def yX10_thread : MethodName := ⟨RX10, "thread", "(I)I"⟩
abbrev cX10_believes : ByteArray := prog_1_method_10_code
def yX10_believes : MethodName := ⟨RX10, "believes", "(II)I"⟩
abbrev cX10_starts : ByteArray := prog_1_method_11_code
def yX10_starts : MethodName := ⟨RX10, "starts", "(II)I"⟩
abbrev cX10_changes : ByteArray := prog_1_method_12_code
def yX10_changes : MethodName := ⟨RX10, "changes", "(II)I"⟩
abbrev cX10_lost : ByteArray := prog_1_method_13_code
def yX10_lost : MethodName := ⟨RX10, "lost", "(II)I"⟩
abbrev cX10_black : ByteArray := prog_1_method_14_code
def yX10_black : MethodName := ⟨RX10, "black", "(II)I"⟩
abbrev cX10_tail : ByteArray := prog_1_method_15_code
def yX10_tail : MethodName := ⟨RX10, "tail", "(II)I"⟩
abbrev cX10_begins : ByteArray := prog_1_method_16_code
def yX10_begins : MethodName := ⟨RX10, "begins", "(II)I"⟩
abbrev cX10_length : ByteArray := prog_1_method_17_code
def yX10_length : MethodName := ⟨RX10, "length", "(I)I"⟩
abbrev cX10_all : ByteArray := prog_1_method_18_code
def yX10_all : MethodName := ⟨RX10, "all", "(II)I"⟩
abbrev cX10_worst : ByteArray := prog_1_method_19_code
def yX10_worst : MethodName := ⟨RX10, "worst", "(I)I"⟩
abbrev cX10_exact : ByteArray := prog_1_method_20_code
def yX10_exact : MethodName := ⟨RX10, "exact", "(II)I"⟩
abbrev cX10_signs : ByteArray := prog_1_method_21_code
def yX10_signs : MethodName := ⟨RX10, "signs", "(I)I"⟩
abbrev cX10_fits : ByteArray := prog_1_method_22_code
def yX10_fits : MethodName := ⟨RX10, "fits", "()I"⟩
abbrev cX10_bestSlip : ByteArray := prog_1_method_23_code
def yX10_bestSlip : MethodName := ⟨RX10, "bestSlip", "(I)I"⟩
abbrev cX10_bySlip : ByteArray := prog_1_method_24_code
def yX10_bySlip : MethodName := ⟨RX10, "bySlip", "(I)I"⟩
abbrev cX10_needs : ByteArray := prog_1_method_25_code
def yX10_needs : MethodName := ⟨RX10, "needs", "(II)I"⟩
abbrev cX10_dies : ByteArray := prog_1_method_26_code
def yX10_dies : MethodName := ⟨RX10, "dies", "(II)I"⟩
abbrev cX10_firstDies : ByteArray := prog_1_method_27_code
def yX10_firstDies : MethodName := ⟨RX10, "firstDies", "(I)I"⟩
abbrev cX10_free : ByteArray := prog_1_method_28_code
def yX10_free : MethodName := ⟨RX10, "free", "(II)I"⟩
abbrev cX10_arc : ByteArray := prog_1_method_29_code
def yX10_arc : MethodName := ⟨RX10, "arc", "(II)I"⟩
abbrev cX10_never : ByteArray := prog_1_method_30_code
def yX10_never : MethodName := ⟨RX10, "never", "(I)I"⟩
abbrev cX10_truly : ByteArray := prog_1_method_31_code
def yX10_truly : MethodName := ⟨RX10, "truly", "(IIZ)J"⟩
abbrev cX10_likeliest : ByteArray := prog_1_method_32_code
def yX10_likeliest : MethodName := ⟨RX10, "likeliest", "(I)I"⟩
abbrev cX10_who : ByteArray := prog_1_method_33_code
def yX10_who : MethodName := ⟨RX10, "who", "(I)I"⟩
abbrev cX10_far : ByteArray := prog_1_method_34_code
def yX10_far : MethodName := ⟨RX10, "far", "(I)I"⟩
abbrev cX10_missing : ByteArray := prog_1_method_35_code
def yX10_missing : MethodName := ⟨RX10, "missing", "(IZ)I"⟩
abbrev cX10_words : ByteArray := prog_1_method_36_code
def yX10_words : MethodName := ⟨RX10, "words", "(I)I"⟩
abbrev cX10_holds : ByteArray := prog_1_method_37_code
def yX10_holds : MethodName := ⟨RX10, "holds", "(IIZ)J"⟩
abbrev cX10_pays : ByteArray := prog_1_method_38_code
def yX10_pays : MethodName := ⟨RX10, "pays", "(II)I"⟩
abbrev cX10_wears : ByteArray := prog_1_method_39_code
def yX10_wears : MethodName := ⟨RX10, "wears", "(IIZ)J"⟩
abbrev cX10_apart : ByteArray := prog_1_method_40_code
def yX10_apart : MethodName := ⟨RX10, "apart", "(II)I"⟩
abbrev cX10_waits : ByteArray := prog_1_method_41_code
def yX10_waits : MethodName := ⟨RX10, "waits", "(III)I"⟩
abbrev cX10_boys : ByteArray := prog_1_method_42_code
def yX10_boys : MethodName := ⟨RX10, "boys", "(I)I"⟩
abbrev cX10_well : ByteArray := prog_1_method_43_code
def yX10_well : MethodName := ⟨RX10, "well", "(Z)J"⟩
abbrev cX10_wrong : ByteArray := prog_1_method_44_code
def yX10_wrong : MethodName := ⟨RX10, "wrong", "()I"⟩
abbrev cX10_exchanges : ByteArray := prog_1_method_45_code
def yX10_exchanges : MethodName := ⟨RX10, "exchanges", "()I"⟩
abbrev cX10_dark : ByteArray := prog_1_method_46_code
def yX10_dark : MethodName := ⟨RX10, "dark", "(II)I"⟩
abbrev cX10_bestMan : ByteArray := prog_1_method_47_code
def yX10_bestMan : MethodName := ⟨RX10, "bestMan", "(II)I"⟩
abbrev cX10_threads : ByteArray := prog_1_method_48_code
def yX10_threads : MethodName := ⟨RX10, "threads", "(II)Z"⟩
abbrev cX10_trim : ByteArray := prog_1_method_49_code
def yX10_trim : MethodName := ⟨RX10, "trim", "(IZ)Z"⟩
abbrev cX10_mend : ByteArray := prog_1_method_50_code
def yX10_mend : MethodName := ⟨RX10, "mend", "(I)I"⟩
abbrev cX10_undo : ByteArray := prog_1_method_51_code
def yX10_undo : MethodName := ⟨RX10, "undo", "()Z"⟩
abbrev cX10_image : ByteArray := prog_1_method_52_code
def yX10_image : MethodName := ⟨RX10, "image", "()I"⟩
abbrev cX10_back : ByteArray := prog_1_method_53_code
def yX10_back : MethodName := ⟨RX10, "back", "(I)Z"⟩
abbrev cX10_led : ByteArray := prog_1_method_54_code
def yX10_led : MethodName := ⟨RX10, "led", "(I)I"⟩
abbrev cX10_size : ByteArray := prog_1_method_55_code
def yX10_size : MethodName := ⟨RX10, "size", "(I)I"⟩
abbrev cX10_trouble : ByteArray := prog_1_method_56_code
def yX10_trouble : MethodName := ⟨RX10, "trouble", "()I"⟩
abbrev cX10_refuse : ByteArray := prog_1_method_57_code
def yX10_refuse : MethodName := ⟨RX10, "refuse", "(I)I"⟩
abbrev cX10_tell : ByteArray := prog_1_method_58_code
def yX10_tell : MethodName := ⟨RX10, "tell", "(I)I"⟩
abbrev cX10_refuseAct : ByteArray := prog_1_method_59_code
def yX10_refuseAct : MethodName := ⟨RX10, "refuseAct", "(I)Z"⟩
abbrev cX10_actDone : ByteArray := prog_1_method_60_code
def yX10_actDone : MethodName := ⟨RX10, "actDone", "()Z"⟩
abbrev cX10_tellPart : ByteArray := prog_1_method_61_code
def yX10_tellPart : MethodName := ⟨RX10, "tellPart", "(Z)J"⟩
abbrev cX10_isOpen : ByteArray := prog_1_method_62_code
def yX10_isOpen : MethodName := ⟨RX10, "isOpen", "()Z"⟩
abbrev cX10_ofPlace : ByteArray := prog_1_method_63_code
def yX10_ofPlace : MethodName := ⟨RX10, "ofPlace", "(II)I"⟩
abbrev cX10_runNight : ByteArray := prog_1_method_64_code
def yX10_runNight : MethodName := ⟨RX10, "runNight", "(I)Z"⟩
abbrev cX10_ofNight : ByteArray := prog_1_method_65_code
def yX10_ofNight : MethodName := ⟨RX10, "ofNight", "(III)I"⟩
abbrev cX10_leastSlip : ByteArray := prog_1_method_66_code
def yX10_leastSlip : MethodName := ⟨RX10, "leastSlip", "(I)I"⟩
abbrev cX10_wasteByDraws : ByteArray := prog_1_method_67_code
def yX10_wasteByDraws : MethodName := ⟨RX10, "wasteByDraws", "(III)I"⟩
abbrev cX10_nearestMark : ByteArray := prog_1_method_68_code
def yX10_nearestMark : MethodName := ⟨RX10, "nearestMark", "(I)I"⟩
abbrev cX10_farFrom : ByteArray := prog_1_method_69_code
def yX10_farFrom : MethodName := ⟨RX10, "farFrom", "(II)I"⟩
abbrev cX10_lackedBy : ByteArray := prog_1_method_70_code
def yX10_lackedBy : MethodName := ⟨RX10, "lackedBy", "(I)I"⟩
abbrev cX10_rideTrouble : ByteArray := prog_1_method_71_code
def yX10_rideTrouble : MethodName := ⟨RX10, "rideTrouble", "(III)I"⟩
abbrev cX10_boysMeant : ByteArray := prog_1_method_72_code
def yX10_boysMeant : MethodName := ⟨RX10, "boysMeant", "(I)I"⟩
abbrev cX10_apartBy : ByteArray := prog_1_method_73_code
def yX10_apartBy : MethodName := ⟨RX10, "apartBy", "(I)I"⟩
def RX11 : String := "ReelChangeModel"
def TX11 : u_T := fun k => match k with
  | 0 => ("ReelChangeModel", "thrown", "I", false)
  | 1 => ("ReelChangeModel", "tape", "[I", true)
  | 2 => ("ReelChangeModel", "taped", "I", false)
  | 3 => ("ReelChangeModel", "size", "I", false)
  | 4 => ("ReelChangeModel", "at", "I", false)
  | 5 => ("ReelChangeModel", "end", "I", false)
  | 6 => ("ReelChangeModel", "token", "I", false)
  | 7 => ("ReelChangeModel", "whole", "I", false)
  | 8 => ("ReelChangeModel", "nameSize", "I", false)
  | 9 => ("ReelChangeModel", "fault", "I", false)
  | 10 => ("ReelChangeModel", "place", "I", false)
  | 11 => ("ReelChangeModel", "trouble", "I", false)
  | 12 => ("ReelChangeModel", "letters", "[I", true)
  | 13 => ("ReelChangeModel", "failed", "Z", false)
  | 14 => ("ReelChangeModel", "hasHouse", "Z", false)
  | 15 => ("ReelChangeModel", "\x72", "[I", true)
  | 16 => ("ReelChangeModel", "fresh", "[I", true)
  | 17 => ("ReelChangeModel", "st", "[I", true)
  | 18 => ("ReelChangeModel", "undone", "[I", true)
  | 19 => ("ReelChangeModel", "kept", "[I", true)
  | 20 => ("ReelChangeModel", "undos", "I", false)
  | 21 => ("ReelChangeModel", "images", "I", false)
  | 22 => ("ReelChangeModel", "from", "[I", true)
  | 23 => ("ReelChangeModel", "begin", "[I", true)
  | 24 => ("ReelChangeModel", "motor", "[I", true)
  | 25 => ("ReelChangeModel", "change", "[I", true)
  | 26 => ("ReelChangeModel", "startFrame", "[I", true)
  | 27 => ("ReelChangeModel", "changeFrame", "[I", true)
  | 28 => ("ReelChangeModel", "lostAt", "[I", true)
  | 29 => ("ReelChangeModel", "blackAt", "[I", true)
  | 30 => ("ReelChangeModel", "slips", "[I", true)
  | 31 => ("ReelChangeModel", "leftArc", "[I", true)
  | 32 => ("ReelChangeModel", "died", "[I", true)
  | 33 => ("ReelChangeModel", "arcs", "[I", true)
  | 34 => ("ReelChangeModel", "bestSum", "I", false)
  | 35 => ("ReelChangeModel", "nearest", "I", false)
  | 36 => ("ReelChangeModel", "nearestTown", "I", false)
  | 37 => ("ReelChangeModel", "there", "[I", true)
  | 38 => ("ReelChangeModel", "backAt", "[I", true)
  | 39 => ("ReelChangeModel", "sorted", "[I", true)
  | 40 => ("ReelChangeModel", "parts", "[I", true)
  | 41 => ("ReelChangeModel", "seed1", "I", false)
  | _ => ("ReelChangeModel", "darkNow", "I", false)
def tyX11 : Nat → FieldType := fun k => match k with
  | 0 => .int
  | 1 => .array .int
  | 2 => .int
  | 3 => .int
  | 4 => .int
  | 5 => .int
  | 6 => .int
  | 7 => .int
  | 8 => .int
  | 9 => .int
  | 10 => .int
  | 11 => .int
  | 12 => .array .int
  | 13 => .boolean
  | 14 => .boolean
  | 15 => .array .int
  | 16 => .array .int
  | 17 => .array .int
  | 18 => .array .int
  | 19 => .array .int
  | 20 => .int
  | 21 => .int
  | 22 => .array .int
  | 23 => .array .int
  | 24 => .array .int
  | 25 => .array .int
  | 26 => .array .int
  | 27 => .array .int
  | 28 => .array .int
  | 29 => .array .int
  | 30 => .array .int
  | 31 => .array .int
  | 32 => .array .int
  | 33 => .array .int
  | 34 => .int
  | 35 => .int
  | 36 => .int
  | 37 => .array .int
  | 38 => .array .int
  | 39 => .array .int
  | 40 => .array .int
  | 41 => .int
  | _ => .int
abbrev wsX110 : List Cond := u_ws RX11 TX11 43
theorem nmX11 : ∀ a, a < 43 → ∀ b, b < 43 → a ≠ b → (TX11 a).2.1 ≠ (TX11 b).2.1 := by decide +kernel
theorem tyX11_ok : ∀ k, k < 43 → parseFieldDescriptor (TX11 k).2.2.1 = some (tyX11 k) := by decide +kernel
abbrev cX11_init : ByteArray := prog_13_method_1_code
def yX11_init : MethodName := ⟨RX11, "<init>", "()V"⟩
abbrev cX11_good : ByteArray := prog_13_method_3_code
def yX11_good : MethodName := ⟨RX11, "good", "()V"⟩
abbrev cX11_no : ByteArray := prog_13_method_4_code
def yX11_no : MethodName := ⟨RX11, "no", "(I)I"⟩
abbrev cX11_isNot : ByteArray := prog_13_method_5_code
def yX11_isNot : MethodName := ⟨RX11, "isNot", "(I)Z"⟩
abbrev cX11_in : ByteArray := prog_13_method_6_code
def yX11_in : MethodName := ⟨RX11, "in", "(III)Z"⟩
abbrev cX11_hasBit : ByteArray := prog_13_method_7_code
def yX11_hasBit : MethodName := ⟨RX11, "hasBit", "(II)Z"⟩
abbrev cX11_ones : ByteArray := prog_13_method_8_code
def yX11_ones : MethodName := ⟨RX11, "ones", "(I)I"⟩
abbrev cX11_most : ByteArray := prog_13_method_9_code
def yX11_most : MethodName := ⟨RX11, "most", "(II)I"⟩
abbrev cX11_least : ByteArray := prog_13_method_10_code
def yX11_least : MethodName := ⟨RX11, "least", "(II)I"⟩
abbrev cX11_copy : ByteArray := prog_13_method_11_code
def yX11_copy : MethodName := ⟨RX11, "copy", "([II[III)V"⟩
abbrev cX11_lowest : ByteArray := prog_13_method_12_code
def yX11_lowest : MethodName := ⟨RX11, "lowest", "(JJZ)J"⟩
abbrev cX11_feed : ByteArray := prog_13_method_13_code
def yX11_feed : MethodName := ⟨RX11, "feed", "(IIIII)I"⟩
abbrev cX11_look : ByteArray := prog_13_method_14_code
def yX11_look : MethodName := ⟨RX11, "look", "(I)I"⟩
abbrev cX11_isSmall : ByteArray := prog_13_method_15_code
def yX11_isSmall : MethodName := ⟨RX11, "isSmall", "(I)Z"⟩
abbrev cX11_isDigit : ByteArray := prog_13_method_16_code
def yX11_isDigit : MethodName := ⟨RX11, "isDigit", "(I)Z"⟩
abbrev cX11_next : ByteArray := prog_13_method_17_code
def yX11_next : MethodName := ⟨RX11, "next", "()V"⟩
abbrev cX11_bad : ByteArray := prog_13_method_18_code
def yX11_bad : MethodName := ⟨RX11, "bad", "(II)V"⟩
abbrev cX11_isWord : ByteArray := prog_13_method_19_code
def yX11_isWord : MethodName := ⟨RX11, "isWord", "(Ljava/lang/String;)Z"⟩
abbrev cX11_takesWord : ByteArray := prog_13_method_20_code
def yX11_takesWord : MethodName := ⟨RX11, "takesWord", "(Ljava/lang/String;)Z"⟩
abbrev cX11_must : ByteArray := prog_13_method_21_code
def yX11_must : MethodName := ⟨RX11, "must", "(Ljava/lang/String;)V"⟩
abbrev cX11_mustName : ByteArray := prog_13_method_22_code
def yX11_mustName : MethodName := ⟨RX11, "mustName", "()V"⟩
abbrev cX11_find : ByteArray := prog_13_method_23_code
def yX11_find : MethodName := ⟨RX11, "find", "()I"⟩
abbrev cX11_newName : ByteArray := prog_13_method_24_code
def yX11_newName : MethodName := ⟨RX11, "newName", "(I)V"⟩
abbrev cX11_named : ByteArray := prog_13_method_25_code
def yX11_named : MethodName := ⟨RX11, "named", "(II)I"⟩
abbrev cX11_reelPassed : ByteArray := prog_13_method_26_code
def yX11_reelPassed : MethodName := ⟨RX11, "reelPassed", "()I"⟩
abbrev cX11_numberHere : ByteArray := prog_13_method_27_code
def yX11_numberHere : MethodName := ⟨RX11, "numberHere", "(II)I"⟩
abbrev cX11_number : ByteArray := prog_13_method_28_code
def yX11_number : MethodName := ⟨RX11, "number", "(II)I"⟩
abbrev cX11_after : ByteArray := prog_13_method_29_code
def yX11_after : MethodName := ⟨RX11, "after", "(Ljava/lang/String;II)I"⟩
abbrev cX11_comma : ByteArray := prog_13_method_30_code
def yX11_comma : MethodName := ⟨RX11, "comma", "()Z"⟩
abbrev cX11_house : ByteArray := prog_13_method_31_code
def yX11_house : MethodName := ⟨RX11, "house", "(I)I"⟩
abbrev cX11_opens : ByteArray := prog_13_method_32_code
def yX11_opens : MethodName := ⟨RX11, "opens", "(Ljava/lang/String;Z)Z"⟩
abbrev cX11_opensOnce : ByteArray := prog_13_method_33_code
def yX11_opensOnce : MethodName := ⟨RX11, "opensOnce", "(Ljava/lang/String;Z)Z"⟩
abbrev cX11_readLine : ByteArray := prog_13_method_34_code
def yX11_readLine : MethodName := ⟨RX11, "readLine", "()V"⟩
abbrev cX11_houseLine : ByteArray := prog_13_method_35_code
def yX11_houseLine : MethodName := ⟨RX11, "houseLine", "()V"⟩
abbrev cX11_reelLine : ByteArray := prog_13_method_36_code
def yX11_reelLine : MethodName := ⟨RX11, "reelLine", "()V"⟩
abbrev cX11_townLine : ByteArray := prog_13_method_37_code
def yX11_townLine : MethodName := ⟨RX11, "townLine", "()V"⟩
abbrev cX11_frameOf : ByteArray := prog_13_method_38_code
def yX11_frameOf : MethodName := ⟨RX11, "frameOf", "(I)I"⟩
abbrev cX11_markLine : ByteArray := prog_13_method_39_code
def yX11_markLine : MethodName := ⟨RX11, "markLine", "()V"⟩
abbrev cX11_joinLine : ByteArray := prog_13_method_40_code
def yX11_joinLine : MethodName := ⟨RX11, "joinLine", "()V"⟩
abbrev cX11_weakLine : ByteArray := prog_13_method_41_code
def yX11_weakLine : MethodName := ⟨RX11, "weakLine", "()V"⟩
abbrev cX11_manLine : ByteArray := prog_13_method_42_code
def yX11_manLine : MethodName := ⟨RX11, "manLine", "()V"⟩
abbrev cX11_showsLine : ByteArray := prog_13_method_43_code
def yX11_showsLine : MethodName := ⟨RX11, "showsLine", "()V"⟩
abbrev cX11_boysLine : ByteArray := prog_13_method_44_code
def yX11_boysLine : MethodName := ⟨RX11, "boysLine", "()V"⟩
abbrev cX11_seenLine : ByteArray := prog_13_method_45_code
def yX11_seenLine : MethodName := ⟨RX11, "seenLine", "()V"⟩
abbrev cX11_scratchLine : ByteArray := prog_13_method_46_code
def yX11_scratchLine : MethodName := ⟨RX11, "scratchLine", "()V"⟩
abbrev cX11_fault : ByteArray := prog_13_method_47_code
def yX11_fault : MethodName := ⟨RX11, "fault", "()I"⟩
abbrev cX11_where : ByteArray := prog_13_method_48_code
def yX11_where : MethodName := ⟨RX11, "where", "()I"⟩
abbrev cX11_isReel : ByteArray := prog_13_method_49_code
def yX11_isReel : MethodName := ⟨RX11, "isReel", "(I)Z"⟩
abbrev cX11_isPlace : ByteArray := prog_13_method_50_code
def yX11_isPlace : MethodName := ⟨RX11, "isPlace", "(I)Z"⟩
abbrev cX11_isMan : ByteArray := prog_13_method_51_code
def yX11_isMan : MethodName := ⟨RX11, "isMan", "(I)Z"⟩
abbrev cX11_isWeak : ByteArray := prog_13_method_52_code
def yX11_isWeak : MethodName := ⟨RX11, "isWeak", "(I)Z"⟩
abbrev cX11_isMended : ByteArray := prog_13_method_53_code
def yX11_isMended : MethodName := ⟨RX11, "isMended", "(I)Z"⟩
abbrev cX11_reelAt : ByteArray := prog_13_method_54_code
def yX11_reelAt : MethodName := ⟨RX11, "reelAt", "(I)I"⟩
abbrev cX11_framesAt : ByteArray := prog_13_method_55_code
def yX11_framesAt : MethodName := ⟨RX11, "framesAt", "(I)I"⟩
abbrev cX11_reel : ByteArray := prog_13_method_56_code
def yX11_reel : MethodName := ⟨RX11, "reel", "(II)I"⟩
abbrev cX11_marksOf : ByteArray := prog_13_method_57_code
def yX11_marksOf : MethodName := ⟨RX11, "marksOf", "(I)I"⟩
abbrev cX11_joinsOf : ByteArray := prog_13_method_58_code
def yX11_joinsOf : MethodName := ⟨RX11, "joinsOf", "(I)I"⟩
abbrev cX11_weaksOf : ByteArray := prog_13_method_59_code
def yX11_weaksOf : MethodName := ⟨RX11, "weaksOf", "(I)I"⟩
abbrev cX11_markOf : ByteArray := prog_13_method_60_code
def yX11_markOf : MethodName := ⟨RX11, "markOf", "(II)I"⟩
abbrev cX11_mark : ByteArray := prog_13_method_61_code
def yX11_mark : MethodName := ⟨RX11, "mark", "(II)I"⟩
abbrev cX11_shows : ByteArray := prog_13_method_62_code
def yX11_shows : MethodName := ⟨RX11, "shows", "(I)I"⟩
abbrev cX11_thread : ByteArray := prog_13_method_63_code
def yX11_thread : MethodName := ⟨RX11, "thread", "(I)I"⟩
abbrev cX11_believesOf : ByteArray := prog_13_method_64_code
def yX11_believesOf : MethodName := ⟨RX11, "believesOf", "(II)I"⟩
abbrev cX11_isGone : ByteArray := prog_13_method_65_code
def yX11_isGone : MethodName := ⟨RX11, "isGone", "(I)Z"⟩
abbrev cX11_layNight : ByteArray := prog_13_method_66_code
def yX11_layNight : MethodName := ⟨RX11, "layNight", "(I)V"⟩
abbrev cX11_follows : ByteArray := prog_13_method_67_code
def yX11_follows : MethodName := ⟨RX11, "follows", "(IIIIZ)V"⟩
abbrev cX11_layTold : ByteArray := prog_13_method_68_code
def yX11_layTold : MethodName := ⟨RX11, "layTold", "(I)V"⟩
abbrev cX11_tailOf : ByteArray := prog_13_method_69_code
def yX11_tailOf : MethodName := ⟨RX11, "tailOf", "(I)I"⟩
abbrev cX11_canTell : ByteArray := prog_13_method_70_code
def yX11_canTell : MethodName := ⟨RX11, "canTell", "(II)Z"⟩
abbrev cX11_believes : ByteArray := prog_13_method_71_code
def yX11_believes : MethodName := ⟨RX11, "believes", "(II)I"⟩
abbrev cX11_starts : ByteArray := prog_13_method_72_code
def yX11_starts : MethodName := ⟨RX11, "starts", "(II)I"⟩
abbrev cX11_changes : ByteArray := prog_13_method_73_code
def yX11_changes : MethodName := ⟨RX11, "changes", "(II)I"⟩
abbrev cX11_lost : ByteArray := prog_13_method_74_code
def yX11_lost : MethodName := ⟨RX11, "lost", "(II)I"⟩
abbrev cX11_black : ByteArray := prog_13_method_75_code
def yX11_black : MethodName := ⟨RX11, "black", "(II)I"⟩
abbrev cX11_tail : ByteArray := prog_13_method_76_code
def yX11_tail : MethodName := ⟨RX11, "tail", "(II)I"⟩
abbrev cX11_begins : ByteArray := prog_13_method_77_code
def yX11_begins : MethodName := ⟨RX11, "begins", "(II)I"⟩
abbrev cX11_length : ByteArray := prog_13_method_78_code
def yX11_length : MethodName := ⟨RX11, "length", "(I)I"⟩
abbrev cX11_sumOf : ByteArray := prog_13_method_79_code
def yX11_sumOf : MethodName := ⟨RX11, "sumOf", "(I)I"⟩
abbrev cX11_all : ByteArray := prog_13_method_80_code
def yX11_all : MethodName := ⟨RX11, "all", "(II)I"⟩
abbrev cX11_worst : ByteArray := prog_13_method_81_code
def yX11_worst : MethodName := ⟨RX11, "worst", "(I)I"⟩
abbrev cX11_exact : ByteArray := prog_13_method_82_code
def yX11_exact : MethodName := ⟨RX11, "exact", "(II)I"⟩
abbrev cX11_needsOf : ByteArray := prog_13_method_83_code
def yX11_needsOf : MethodName := ⟨RX11, "needsOf", "(I)I"⟩
abbrev cX11_freeOf : ByteArray := prog_13_method_84_code
def yX11_freeOf : MethodName := ⟨RX11, "freeOf", "(I)I"⟩
abbrev cX11_burn : ByteArray := prog_13_method_85_code
def yX11_burn : MethodName := ⟨RX11, "burn", "(I)Z"⟩
abbrev cX11_needs : ByteArray := prog_13_method_86_code
def yX11_needs : MethodName := ⟨RX11, "needs", "(II)I"⟩
abbrev cX11_dies : ByteArray := prog_13_method_87_code
def yX11_dies : MethodName := ⟨RX11, "dies", "(II)I"⟩
abbrev cX11_firstDies : ByteArray := prog_13_method_88_code
def yX11_firstDies : MethodName := ⟨RX11, "firstDies", "(I)I"⟩
abbrev cX11_arc : ByteArray := prog_13_method_89_code
def yX11_arc : MethodName := ⟨RX11, "arc", "(II)I"⟩
abbrev cX11_free : ByteArray := prog_13_method_90_code
def yX11_free : MethodName := ⟨RX11, "free", "(II)I"⟩
abbrev cX11_never : ByteArray := prog_13_method_91_code
def yX11_never : MethodName := ⟨RX11, "never", "(I)I"⟩
abbrev cX11_isDot : ByteArray := prog_13_method_92_code
def yX11_isDot : MethodName := ⟨RX11, "isDot", "(II)Z"⟩
abbrev cX11_weightOf : ByteArray := prog_13_method_93_code
def yX11_weightOf : MethodName := ⟨RX11, "weightOf", "(II)J"⟩
abbrev cX11_allWeights : ByteArray := prog_13_method_94_code
def yX11_allWeights : MethodName := ⟨RX11, "allWeights", "(I)J"⟩
abbrev cX11_truly : ByteArray := prog_13_method_95_code
def yX11_truly : MethodName := ⟨RX11, "truly", "(IIZ)J"⟩
abbrev cX11_likeliest : ByteArray := prog_13_method_96_code
def yX11_likeliest : MethodName := ⟨RX11, "likeliest", "(I)I"⟩
abbrev cX11_missing : ByteArray := prog_13_method_97_code
def yX11_missing : MethodName := ⟨RX11, "missing", "(IZ)I"⟩
abbrev cX11_words : ByteArray := prog_13_method_98_code
def yX11_words : MethodName := ⟨RX11, "words", "(I)I"⟩
abbrev cX11_power : ByteArray := prog_13_method_99_code
def yX11_power : MethodName := ⟨RX11, "power", "(II)J"⟩
abbrev cX11_holds : ByteArray := prog_13_method_100_code
def yX11_holds : MethodName := ⟨RX11, "holds", "(IIZ)J"⟩
abbrev cX11_pays : ByteArray := prog_13_method_101_code
def yX11_pays : MethodName := ⟨RX11, "pays", "(II)I"⟩
abbrev cX11_wears : ByteArray := prog_13_method_102_code
def yX11_wears : MethodName := ⟨RX11, "wears", "(IIZ)J"⟩
abbrev cX11_signsOf : ByteArray := prog_13_method_103_code
def yX11_signsOf : MethodName := ⟨RX11, "signsOf", "(I)I"⟩
abbrev cX11_signs : ByteArray := prog_13_method_104_code
def yX11_signs : MethodName := ⟨RX11, "signs", "(I)I"⟩
abbrev cX11_fits : ByteArray := prog_13_method_105_code
def yX11_fits : MethodName := ⟨RX11, "fits", "()I"⟩
abbrev cX11_bestSlipOf : ByteArray := prog_13_method_106_code
def yX11_bestSlipOf : MethodName := ⟨RX11, "bestSlipOf", "(I)I"⟩
abbrev cX11_bestSlip : ByteArray := prog_13_method_107_code
def yX11_bestSlip : MethodName := ⟨RX11, "bestSlip", "(I)I"⟩
abbrev cX11_bySlip : ByteArray := prog_13_method_108_code
def yX11_bySlip : MethodName := ⟨RX11, "bySlip", "(I)I"⟩
abbrev cX11_farOf : ByteArray := prog_13_method_109_code
def yX11_farOf : MethodName := ⟨RX11, "farOf", "(II)I"⟩
abbrev cX11_layScratch : ByteArray := prog_13_method_110_code
def yX11_layScratch : MethodName := ⟨RX11, "layScratch", "(I)Z"⟩
abbrev cX11_who : ByteArray := prog_13_method_111_code
def yX11_who : MethodName := ⟨RX11, "who", "(I)I"⟩
abbrev cX11_far : ByteArray := prog_13_method_112_code
def yX11_far : MethodName := ⟨RX11, "far", "(I)I"⟩
abbrev cX11_carry : ByteArray := prog_13_method_113_code
def yX11_carry : MethodName := ⟨RX11, "carry", "(II)V"⟩
abbrev cX11_apartOf : ByteArray := prog_13_method_114_code
def yX11_apartOf : MethodName := ⟨RX11, "apartOf", "(II)I"⟩
abbrev cX11_boyWhy : ByteArray := prog_13_method_115_code
def yX11_boyWhy : MethodName := ⟨RX11, "boyWhy", "(I)I"⟩
abbrev cX11_apart : ByteArray := prog_13_method_116_code
def yX11_apart : MethodName := ⟨RX11, "apart", "(II)I"⟩
abbrev cX11_boys : ByteArray := prog_13_method_117_code
def yX11_boys : MethodName := ⟨RX11, "boys", "(I)I"⟩
abbrev cX11_waits : ByteArray := prog_13_method_118_code
def yX11_waits : MethodName := ⟨RX11, "waits", "(III)I"⟩
abbrev cX11_well : ByteArray := prog_13_method_119_code
def yX11_well : MethodName := ⟨RX11, "well", "(Z)J"⟩
abbrev cX11_wrong : ByteArray := prog_13_method_120_code
def yX11_wrong : MethodName := ⟨RX11, "wrong", "()I"⟩
abbrev cX11_laySorted : ByteArray := prog_13_method_121_code
def yX11_laySorted : MethodName := ⟨RX11, "laySorted", "()V"⟩
abbrev cX11_isEven : ByteArray := prog_13_method_122_code
def yX11_isEven : MethodName := ⟨RX11, "isEven", "(I)Z"⟩
abbrev cX11_exchanges : ByteArray := prog_13_method_123_code
def yX11_exchanges : MethodName := ⟨RX11, "exchanges", "()I"⟩
abbrev cX11_drawn : ByteArray := prog_13_method_124_code
def yX11_drawn : MethodName := ⟨RX11, "drawn", "()I"⟩
abbrev cX11_drawNight : ByteArray := prog_13_method_125_code
def yX11_drawNight : MethodName := ⟨RX11, "drawNight", "(I)V"⟩
abbrev cX11_dark : ByteArray := prog_13_method_126_code
def yX11_dark : MethodName := ⟨RX11, "dark", "(II)I"⟩
abbrev cX11_bestMan : ByteArray := prog_13_method_127_code
def yX11_bestMan : MethodName := ⟨RX11, "bestMan", "(II)I"⟩
abbrev cX11_note : ByteArray := prog_13_method_128_code
def yX11_note : MethodName := ⟨RX11, "note", "()V"⟩
abbrev cX11_threads : ByteArray := prog_13_method_129_code
def yX11_threads : MethodName := ⟨RX11, "threads", "(II)Z"⟩
abbrev cX11_trim : ByteArray := prog_13_method_130_code
def yX11_trim : MethodName := ⟨RX11, "trim", "(IZ)Z"⟩
abbrev cX11_shifted : ByteArray := prog_13_method_131_code
def yX11_shifted : MethodName := ⟨RX11, "shifted", "(III)I"⟩
abbrev cX11_mend : ByteArray := prog_13_method_132_code
def yX11_mend : MethodName := ⟨RX11, "mend", "(I)I"⟩
abbrev cX11_undo : ByteArray := prog_13_method_133_code
def yX11_undo : MethodName := ⟨RX11, "undo", "()Z"⟩
abbrev cX11_image : ByteArray := prog_13_method_134_code
def yX11_image : MethodName := ⟨RX11, "image", "()I"⟩
abbrev cX11_back : ByteArray := prog_13_method_135_code
def yX11_back : MethodName := ⟨RX11, "back", "(I)Z"⟩
abbrev cX11_led : ByteArray := prog_13_method_136_code
def yX11_led : MethodName := ⟨RX11, "led", "(I)I"⟩
abbrev cX11_size : ByteArray := prog_13_method_137_code
def yX11_size : MethodName := ⟨RX11, "size", "(I)I"⟩
abbrev cX11_trouble : ByteArray := prog_13_method_138_code
def yX11_trouble : MethodName := ⟨RX11, "trouble", "()I"⟩
def RJ6 : String := "java/lang/Integer"
abbrev cJ6_bitCount_0f7a4 : ByteArray := prog_18_method_49_code
def yJ6_bitCount_0f7a4 : MethodName := ⟨RJ6, "bitCount", "(I)I"⟩
def RJ0 : String := "java/lang/String"
abbrev cJ0_length_8abf5 : ByteArray := prog_21_method_54_code
def yJ0_length_8abf5 : MethodName := ⟨RJ0, "length", "()I"⟩
abbrev cJ0_charAt_5068e : ByteArray := prog_21_method_56_code
def yJ0_charAt_5068e : MethodName := ⟨RJ0, "charAt", "(I)C"⟩
abbrev cJ0_coder_7d493 : ByteArray := prog_21_method_152_code
def yJ0_coder_7d493 : MethodName := ⟨RJ0, "coder", "()B"⟩
abbrev cJ0_isLatin1_aae02 : ByteArray := prog_21_method_154_code
def yJ0_isLatin1_aae02 : MethodName := ⟨RJ0, "isLatin1", "()Z"⟩
abbrev cJ0_checkIndex_df160 : ByteArray := prog_21_method_155_code
def yJ0_checkIndex_df160 : MethodName := ⟨RJ0, "checkIndex", "(II)V"⟩
def RJ1 : String := "java/lang/StringLatin1"
abbrev cJ1_charAt_3b067 : ByteArray := prog_22_method_2_code
def yJ1_charAt_3b067 : MethodName := ⟨RJ1, "charAt", "([BI)C"⟩
def RJ2 : String := "java/lang/StringUTF16"
abbrev cJ2_getChar_3b067 : ByteArray := prog_23_method_5_code
def yJ2_getChar_3b067 : MethodName := ⟨RJ2, "getChar", "([BI)C"⟩
abbrev cJ2_length_9d52b : ByteArray := prog_23_method_6_code
def yJ2_length_9d52b : MethodName := ⟨RJ2, "length", "([B)I"⟩
abbrev cJ2_charAt_3b067 : ByteArray := prog_23_method_83_code
def yJ2_charAt_3b067 : MethodName := ⟨RJ2, "charAt", "([BI)C"⟩
abbrev cJ2_checkIndex_2214a : ByteArray := prog_23_method_91_code
def yJ2_checkIndex_2214a : MethodName := ⟨RJ2, "checkIndex", "(I[B)V"⟩
def RJ3 : String := "jdk/internal/util/Preconditions"
abbrev cJ3_checkIndex_8e157 : ByteArray := prog_29_method_11_code
def yJ3_checkIndex_8e157 : MethodName := ⟨RJ3, "checkIndex", "(IILjava/util/function/BiFunction;)I"⟩
def RL : String := "ReelChangeLaw"
abbrev cL_led : ByteArray := method_3_code
def yL_led : MethodName := ⟨RL, "led", "(LReelChange;I[J)I"⟩
abbrev cL_law : ByteArray := code
